/-! the law's loop, and its start -/
section LAW4
variable {p : Program} {l : Launch} {e : Env} {s : State} {m : MethodId} {args : Array Value} {below : List Frame} {meth : Method} {c : Code} {Q : State → Prop} {cells slots o b L i : Nat} {xs : Nat → Int32} {H : Heap} {locs : List Loc} {lsv : Array Slot} {D : va_G} {cI cJ : ClassId} {μ : gM} {N : Int} {fo : Nat → Int64}
def lOffs : Array Int := #[164, 237, 262, 287, 324, 365, 454, 491, 528, 553, 578, 591, 616, 665, 690, 731, 756, 781, 806, 874, 899, 936, 973, 1022, 1059, 1096, 1146, 1184, 1221, 1258, 1295, 1332, 1357, 1382, 1419, 1432, 1445]
theorem l_sw : decode code 40 = .ok (.tableswitch 1470 0 36 lOffs, 164) := by decide +kernel
set_option maxRecDepth 100000 in
/-- one step, from the switch on -/
theorem l_one {v : Int32} (C0 : lFr p s m args meth c D cI cJ b L xs) (hl0 : l.stackTraces = false) (hC : yC s.heap.size s s.heap) (hl : lLv s b o i lsv) (hs : lSt s D cI cJ o fo H locs μ) (hI : gInv N μ) (hN : N < 1000000) (hi : i + 5 < L) (hcs : cells + 1 ≤ room_1.cells ∧ slots + 6 ≤ room_1.slots) (k : lK p l e s m args below meth c Q D cI cJ o b i N cells slots) : W p l e room_1 s m args below meth c H locs cells slots Q (F0 m 40 lsv [.int v]) := by
  have hx := C0.1
  have hb := C0.2.1
  have hc0 : cells ≤ room_1.cells ∧ slots ≤ room_1.slots := ⟨by omega, by omega⟩
  by_cases hv : v.toInt < 0 ∨ 36 < v.toInt
  · refine lv_tableOut (tgt := 1510) hx hb l_sw hv (by decide) ?_
    exact W.widen (k := cells + 1) (n := slots + 6) (by omega) (by omega) (k fo H locs μ lsv hs (gInv_up hI) hl)
  · have h1 : ¬ v.toInt < 0 := fun q => hv (Or.inl q)
    have h2 : ¬ 36 < v.toInt := fun q => hv (Or.inr q)
    have h3 : v.toInt = 0 ∨ v.toInt = 1 ∨ v.toInt = 2 ∨ v.toInt = 3 ∨ v.toInt = 4 ∨ v.toInt = 5 ∨ v.toInt = 6 ∨ v.toInt = 7 ∨ v.toInt = 8 ∨ v.toInt = 9 ∨ v.toInt = 10 ∨ v.toInt = 11 ∨ v.toInt = 12 ∨ v.toInt = 13 ∨ v.toInt = 14 ∨ v.toInt = 15 ∨ v.toInt = 16 ∨ v.toInt = 17 ∨ v.toInt = 18 ∨ v.toInt = 19 ∨ v.toInt = 20 ∨ v.toInt = 21 ∨ v.toInt = 22 ∨ v.toInt = 23 ∨ v.toInt = 24 ∨ v.toInt = 25 ∨ v.toInt = 26 ∨ v.toInt = 27 ∨ v.toInt = 28 ∨ v.toInt = 29 ∨ v.toInt = 30 ∨ v.toInt = 31 ∨ v.toInt = 32 ∨ v.toInt = 33 ∨ v.toInt = 34 ∨ v.toInt = 35 ∨ v.toInt = 36 := by omega
    rcases h3 with h | h | h | h | h | h | h | h | h | h | h | h | h | h | h | h | h | h | h | h | h | h | h | h | h | h | h | h | h | h | h | h | h | h | h | h | h
    · refine lv_tableIn (tgt := 204) hx hb l_sw h1 h2 (off := 164) (by rw [h]; rfl) (by decide) ?_
      exact lc_0 C0 hl hs hI hN hi hc0 k
    · refine lv_tableIn (tgt := 277) hx hb l_sw h1 h2 (off := 237) (by rw [h]; rfl) (by decide) ?_
      exact lc_1 C0 hl hs hI hN hi hc0 k
    · refine lv_tableIn (tgt := 302) hx hb l_sw h1 h2 (off := 262) (by rw [h]; rfl) (by decide) ?_
      exact lc_2 C0 hl hs hI hN hi hc0 k
    · refine lv_tableIn (tgt := 327) hx hb l_sw h1 h2 (off := 287) (by rw [h]; rfl) (by decide) ?_
      exact lc_3 C0 hl hs hI hN hi hc0 k
    · refine lv_tableIn (tgt := 364) hx hb l_sw h1 h2 (off := 324) (by rw [h]; rfl) (by decide) ?_
      exact lc_4 C0 hl hs hI hN hi hc0 k
    · refine lv_tableIn (tgt := 405) hx hb l_sw h1 h2 (off := 365) (by rw [h]; rfl) (by decide) ?_
      exact lc_5 C0 hl hs hI hN hi hc0 k
    · refine lv_tableIn (tgt := 494) hx hb l_sw h1 h2 (off := 454) (by rw [h]; rfl) (by decide) ?_
      exact lc_6 C0 hl hs hI hN hi hc0 k
    · refine lv_tableIn (tgt := 531) hx hb l_sw h1 h2 (off := 491) (by rw [h]; rfl) (by decide) ?_
      exact lc_7 C0 hl hs hI hN hi hc0 k
    · refine lv_tableIn (tgt := 568) hx hb l_sw h1 h2 (off := 528) (by rw [h]; rfl) (by decide) ?_
      exact lc_8 C0 hl hs hI hN hi hc0 k
    · refine lv_tableIn (tgt := 593) hx hb l_sw h1 h2 (off := 553) (by rw [h]; rfl) (by decide) ?_
      exact lc_9 C0 hl hs hI hN hi hc0 k
    · refine lv_tableIn (tgt := 618) hx hb l_sw h1 h2 (off := 578) (by rw [h]; rfl) (by decide) ?_
      exact lc_10 C0 hl hs hI hN hi hc0 k
    · refine lv_tableIn (tgt := 631) hx hb l_sw h1 h2 (off := 591) (by rw [h]; rfl) (by decide) ?_
      exact lc_11 C0 hl hs hI hN hi hc0 k
    · refine lv_tableIn (tgt := 656) hx hb l_sw h1 h2 (off := 616) (by rw [h]; rfl) (by decide) ?_
      exact lc_12 C0 hl hs hI hN hi hc0 k
    · refine lv_tableIn (tgt := 705) hx hb l_sw h1 h2 (off := 665) (by rw [h]; rfl) (by decide) ?_
      exact lc_13 C0 hl hs hI hN hi hc0 k
    · refine lv_tableIn (tgt := 730) hx hb l_sw h1 h2 (off := 690) (by rw [h]; rfl) (by decide) ?_
      exact lc_14 C0 hl hs hI hN hi hc0 k
    · refine lv_tableIn (tgt := 771) hx hb l_sw h1 h2 (off := 731) (by rw [h]; rfl) (by decide) ?_
      exact lc_15 C0 hl hs hI hN hi hc0 k
    · refine lv_tableIn (tgt := 796) hx hb l_sw h1 h2 (off := 756) (by rw [h]; rfl) (by decide) ?_
      exact lc_16 C0 hl hs hI hN hi hc0 k
    · refine lv_tableIn (tgt := 821) hx hb l_sw h1 h2 (off := 781) (by rw [h]; rfl) (by decide) ?_
      exact lc_17 C0 hl hs hI hN hi hc0 k
    · refine lv_tableIn (tgt := 846) hx hb l_sw h1 h2 (off := 806) (by rw [h]; rfl) (by decide) ?_
      exact lc_18 C0 hl0 hC hl hs hI hi hcs k
    · refine lv_tableIn (tgt := 914) hx hb l_sw h1 h2 (off := 874) (by rw [h]; rfl) (by decide) ?_
      exact lc_19 C0 hl hs hI hN hi hc0 k
    · refine lv_tableIn (tgt := 939) hx hb l_sw h1 h2 (off := 899) (by rw [h]; rfl) (by decide) ?_
      exact lc_20 C0 hl hs hI hN hi hc0 k
    · refine lv_tableIn (tgt := 976) hx hb l_sw h1 h2 (off := 936) (by rw [h]; rfl) (by decide) ?_
      exact lc_21 C0 hl hs hI hN hi hc0 k
    · refine lv_tableIn (tgt := 1013) hx hb l_sw h1 h2 (off := 973) (by rw [h]; rfl) (by decide) ?_
      exact lc_22 C0 hl hs hI hN hi hc0 k
    · refine lv_tableIn (tgt := 1062) hx hb l_sw h1 h2 (off := 1022) (by rw [h]; rfl) (by decide) ?_
      exact lc_23 C0 hl hs hI hN hi hc0 k
    · refine lv_tableIn (tgt := 1099) hx hb l_sw h1 h2 (off := 1059) (by rw [h]; rfl) (by decide) ?_
      exact lc_24 C0 hl hs hI hN hi hc0 k
    · refine lv_tableIn (tgt := 1136) hx hb l_sw h1 h2 (off := 1096) (by rw [h]; rfl) (by decide) ?_
      exact lc_25 C0 hl hs hI hN hi hc0 k
    · refine lv_tableIn (tgt := 1186) hx hb l_sw h1 h2 (off := 1146) (by rw [h]; rfl) (by decide) ?_
      exact lc_26 C0 hl hs hI hN hi hc0 k
    · refine lv_tableIn (tgt := 1224) hx hb l_sw h1 h2 (off := 1184) (by rw [h]; rfl) (by decide) ?_
      exact lc_27 C0 hl hs hI hN hi hc0 k
    · refine lv_tableIn (tgt := 1261) hx hb l_sw h1 h2 (off := 1221) (by rw [h]; rfl) (by decide) ?_
      exact lc_28 C0 hl hs hI hN hi hc0 k
    · refine lv_tableIn (tgt := 1298) hx hb l_sw h1 h2 (off := 1258) (by rw [h]; rfl) (by decide) ?_
      exact lc_29 C0 hl hs hI hN hi hc0 k
    · refine lv_tableIn (tgt := 1335) hx hb l_sw h1 h2 (off := 1295) (by rw [h]; rfl) (by decide) ?_
      exact lc_30 C0 hl hs hI hN hi hc0 k
    · refine lv_tableIn (tgt := 1372) hx hb l_sw h1 h2 (off := 1332) (by rw [h]; rfl) (by decide) ?_
      exact lc_31 C0 hl hs hI hN hi hc0 k
    · refine lv_tableIn (tgt := 1397) hx hb l_sw h1 h2 (off := 1357) (by rw [h]; rfl) (by decide) ?_
      exact lc_32 C0 hl hs hI hN hi hc0 k
    · refine lv_tableIn (tgt := 1422) hx hb l_sw h1 h2 (off := 1382) (by rw [h]; rfl) (by decide) ?_
      exact lc_33 C0 hl hs hI hN hi hc0 k
    · refine lv_tableIn (tgt := 1459) hx hb l_sw h1 h2 (off := 1419) (by rw [h]; rfl) (by decide) ?_
      exact lc_34 C0 hl hs hI hN hi hc0 k
    · refine lv_tableIn (tgt := 1472) hx hb l_sw h1 h2 (off := 1432) (by rw [h]; rfl) (by decide) ?_
      exact lc_35 C0 hl hs hI hN hi hc0 k
    · refine lv_tableIn (tgt := 1485) hx hb l_sw h1 h2 (off := 1445) (by rw [h]; rfl) (by decide) ?_
      exact lc_36 C0 hl hs hI hN hi hc0 k
set_option maxRecDepth 100000 in
theorem l_loop (C0 : lFr p s m #[Value.ref b] meth c D cI cJ b L xs) (hl0 : l.stackTraces = false) (hC : yC s.heap.size s s.heap) (hr : meth.sig.returnType = ret) (hlk : meth.locks = false) : ∀ (n it : Nat), it + n = 513 → 6 * it ≤ L → ∀ {o : Nat} {fo : Nat → Int64} {H : Heap} {locs : List Loc} {lsv : Array Slot} {μ : gM}, lLv s b o (6 * it) lsv → lSt s D cI cJ o fo H locs μ → gInv ((it : Int) + 1) μ → W p l e room_1 s m #[Value.ref b] below meth c H locs (183 + it) (12830 + 6 * it) (lw_Z below #[Value.ref b] s) (F0 m 23 lsv []) := by
  have C1 := C0
  obtain ⟨hx, hb, hml, hown, hts, hKK, hX, hbl, hL⟩ := C0
  have r1 : room_1.cells = 1209 := rfl
  have r2 : room_1.slots = 21034 := rfl
  intro n
  induction n with
  | zero => intro it h1 h2; omega
  | succ n ih =>
    intro it h1 h2 o fo H locs lsv μ hl hs hI
    have hS := hs.2.2.2.1
    have hbA : ¬ (fun q : Nat => s.heap.size ≤ q) b := Nat.not_le.mpr hbl
    refine lv_iload hx hb (by decide +kernel) (lv_at hl 4 rfl) ?_
    refine lv_aload_n (k := 0) hx hb (by decide +kernel) rfl (lv_at hl 0 rfl) ?_
    refine va_slen hx hb hX hbl hbA hS (by decide +kernel) ?_
    refine lv_bipush (n := 6) (v := 6) hx hb (by decide +kernel) (by decide) ?_
    refine lv_isub hx hb (by decide +kernel) ?_
    have eL : (Int32.ofNat L - 6).toInt = (L : Int) - 6 := by
      have e : Int32.ofNat L - 6 = Int32.ofInt ((L : Int) - 6) := by
        rw [Int32.ofInt_sub]
        rfl
      rw [e]
      exact ofInt_toInt (by omega) (by omega)
    have ei : (Int32.ofInt ((6 * it : Nat) : Int)).toInt = ((6 * it : Nat) : Int) := ofInt_toInt (by omega) (by omega)
    refine lv_icmp_gt (tgt := 1516) hx hb (show decode code (23 + 2 + 1 + 1 + 2 + 1) = .ok (.if_icmp .gt 1486, 3) by decide +kernel) (by decide) (fun q => ?_) (fun q => ?_)
    · refine lv_iconst (n := 1) (v := 1) hx hb (by decide +kernel) (by decide) ?_
      refine W.widen (k := 1209) (n := 21034) (by omega) (by omega) ?_
      refine va_forget (fun q hq => hS.2.2 q hq) ?_
      exact lw_ret hx hb hr hlk (by decide +kernel)
    · have hi : 6 * it + 5 < L := by
        rcases Nat.lt_or_ge (6 * it + 5) L with z | z
        · exact z
        · exfalso
          refine q (Int32.lt_iff_toInt_lt.mpr ?_)
          rw [eL, ei]
          omega
      refine lv_aload_n (k := 0) hx hb (by decide +kernel) rfl (lv_at hl 0 rfl) ?_
      refine lv_iload hx hb (by decide +kernel) (lv_at hl 4 rfl) ?_
      refine va_sld hx hb hX hbl hbA hS (vp_in_iff.mpr ⟨by rw [ei]; omega, by rw [ei]; omega⟩) (by decide +kernel) ?_
      refine lv_bipush (n := 63) (v := 63) hx hb (by decide +kernel) (by decide) ?_
      refine lv_iand hx hb (by decide +kernel) ?_
      refine l_one C1 hl0 hC hl hs hI (by omega) hi ⟨by omega, by omega⟩ ?_
      intro fo1 H1 locs1 ν lsv1 hs1 hI1 hl1
      obtain ⟨y, ey⟩ : ∃ y : Int32, y = Int32.ofInt ((6 * it : Nat) : Int) + Int32.ofInt 6 := ⟨_, rfl⟩
      have ey2 : y = Int32.ofInt ((6 * (it + 1) : Nat) : Int) := by
        rw [ey, ← Int32.ofInt_add]
        congr 1
      refine lv_iinc (v := y) (lv' := [(4, .int y), (0, .ref b), (1, .ref (nad s.heap.size 0)), (2, .ref (nad s.heap.size 167)), (3, .ref o)]) hx hb (show decode code 1510 = .ok (.iinc 4 6, 3) by decide +kernel) hl1 (k := 4) rfl ey.symm (by decide) rfl (fun lsv2 hl2 => ?_)
      refine lv_goto (tgt := 23) hx hb (show decode code (1510 + 3) = .ok (.goto (-1490), 3) by decide +kernel) (by decide) ?_
      have := ih (it + 1) (by omega) (by omega) (o := o) (fo := fo1) (H := H1) (locs := locs1) (lsv := lsv2) (μ := ν) (by rw [ey2] at hl2; exact lv_sub hl2 [1, 2, 3, 4, 0] rfl) hs1 (by rw [show ((it + 1 : Nat) : Int) + 1 = (it : Int) + 1 + 1 by omega]; exact hI1)
      rw [show 183 + it + 1 = 183 + (it + 1) by omega, show 12830 + 6 * it + 6 = 12830 + 6 * (it + 1) by omega]
      exact this
end LAW4
