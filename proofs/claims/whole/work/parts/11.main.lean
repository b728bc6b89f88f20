/-! calls and ends; every run of the small machine is a run of the JVM -/
theorem g_back_val {ad : Nat → Nat} {M' : Nat} {r : Int} {st : List gv} : (gRV M' r).toList ++ st.map (gval ad) = (g_back M' r st).map (gval ad) := by
  unfold gRV g_back
  generalize gret (mT M') = t
  rcases t with _ | _ | _ | _ | t <;> rfl
def gokr (M : Nat) (r : Int) : Prop := match gret (mT M) with
  | 0 => True
  | 3 => (Int64.ofInt r).toInt = r
  | _ => (Int32.ofInt r).toInt = r
theorem g_back_ok {M' : Nat} {r : Int} {st : List gv} (h : gokl st) (hr : gokr M' r) : gokl (g_back M' r st) := by
  unfold gokr at hr
  unfold g_back
  revert hr
  generalize gret (mT M') = t
  rcases t with _ | _ | _ | _ | t <;> intro hr
  · exact h
  · exact gokl_cons.mpr ⟨hr, h⟩
  · exact gokl_cons.mpr ⟨hr, h⟩
  · exact gokl_cons.mpr ⟨hr, h⟩
  · exact gokl_cons.mpr ⟨hr, h⟩
theorem g_call_inv {M pc idx : Nat} {b : Bool} {ls st : List gv} {μ : gM} {M' : Nat} {as : List gv} {c' : gF} (h : g_call M pc idx b ls st μ = some (.inr (.inl (M', as, c')))) : ∃ (s a d f : Nat) (rest : List gv), gml (mO M) idx = some (M', s, a, d, f) ∧ (b = true ↔ 2 ≤ s) ∧ g_fit M M' = true ∧ st = as.reverse ++ rest ∧ as.length = (if b = true then g_np M' else g_np M' + 1) ∧ (rest.map g_cat).sum ≤ 8 ∧ (g_exp as).length ≤ mL M' ∧ (b = true ∨ g_rcv M' as = true) ∧ c' = (pc + 3, ls, rest, μ) := by
  unfold g_call at h
  split at h
  · rename_i M1 s a d f hm
    split at h
    · rename_i hq
      dsimp only at h
      generalize hn : (if b = true then g_np M1 else g_np M1 + 1) = n at h
      split at h
      · rename_i hz
        cases h
        refine ⟨s, a, d, f, st.drop n, hm, hq.1, hq.2, ?_, ?_, hz.2.1, hz.2.2.1, hz.2.2.2, rfl⟩
        · rw [List.reverse_reverse, List.take_append_drop]
        · rw [hn, List.length_reverse, List.length_take]
          omega
      · cases h
    · cases h
  · cases h
theorem g_call_noret {M pc idx : Nat} {b : Bool} {ls st : List gv} {μ : gM} {r : Int} (h : g_call M pc idx b ls st μ = some (.inr (.inr r))) : False := by
  unfold g_call at h
  split at h
  · split at h
    · dsimp only at h
      generalize (if b = true then _ else _) = n at h
      split at h
      · cases h
      · cases h
    · cases h
  · cases h
theorem va_callg {p : Program} {l : Launch} {e : Env} {R : Room} {s : State} {m : MethodId} {args : Array Value} {below : List Frame} {meth : Method} {c : Code} {H H0 : Heap} {locs : List Loc} {cells slots : Nat} {Q : State → Prop} {A0 A1 : Nat → Prop} {D : va_G} {ad : Nat → Nat} {cI cJ : ClassId} {M pc : Nat} {ls : Array Slot} {st0 rest : List Value} {r : Int} {μ' : gM} {a : Array Value} {free : Addr → Prop}
    (hr : va_Run p l e R s m args below meth c H locs cells slots 0 0 (F0 m pc ls st0) rest (gQ D ad cI cJ M r μ' A1 a) free) (hS : va_S A0 H0 H locs) (hA : ∀ q, q < H.size → A1 q → A0 q) (hf : ∀ q, free q → A0 q)
    (kk : ∀ (H1 : Heap) (locs1 : List Loc), H.size ≤ H1.size → (∀ q : Nat, q < H.size → ¬ A1 q → H1[q]? = H[q]?) → va_P D gCL (gws ad cI cJ μ') H1 → va_S A0 H0 H1 locs1 → W p l e R s m args below meth c H1 locs1 cells slots Q (F0 m (pc + 3) ls ((gRV M r).toList ++ rest))) : W p l e R s m args below meth c H locs cells slots Q (F0 m pc ls st0) := by
  intro T hT X
  obtain ⟨v, st₀, t, T', L, h0, X', hL, e1, e2, ⟨⟨hv, hb⟩, hz, hk⟩, st⟩ := hr T hT X
  cases hv
  rw [h0] at hz hk
  obtain ⟨t2, a1, b1⟩ := kk T'.heap (locs ++ L) (by rw [e1]; exact hz) (fun q h1 h2 => by rw [e1]; exact hk q h1 h2) (by rw [e1]; exact hb)
    ⟨Nat.le_trans hS.1 (by rw [e1]; exact hz), fun q h1 h2 => by rw [e1, hk q (Nat.lt_of_lt_of_le h1 hS.1) (fun z => h2 (hA q (Nat.lt_of_lt_of_le h1 hS.1) z))]; exact hS.2.1 q h1 h2, fun q hq => by
      rcases List.mem_append.mp hq with h | h
      · exact hS.2.2 q h
      · exact hf _ (hL q h)⟩ T' rfl X'
  exact ⟨t2, st t2 a1, b1⟩
theorem gQ_blind {D : va_G} {ad : Nat → Nat} {cI cJ : ClassId} {as : List gv} {μ : gM} {sz : Nat} : FrameBlind (gPc D ad cI cJ as μ sz) := by
  rintro a U g mk ⟨q0, q1, qP, qK, qN⟩
  exact ⟨q0, q1, qP, va_K.moved (u := U) (U := U.calling g mk a) (Vm.Alike.refl U.vm) qK, fun w hw => va_Nw.same (u := U) (U := U.calling g mk a) (gNest_tabs hw) rfl (qN w hw)⟩
theorem gWs_good (M : Nat) (hM : M < gMT.length) : ∀ w ∈ gWs M, goodWord w = true := by
  intro w hw
  rcases List.mem_cons.mp hw with rfl | hw
  · rfl
  · exact gTB_good hw
/-- the words of any method are among those of any other -/
theorem gWs_in (M M' : Nat) (hM' : M' < gMT.length) : GoodIn (gWs M) (gWs M') := by
  intro w hw
  refine ⟨List.mem_cons_of_mem _ ?_, good_of_word (gWs_good M' hM' w hw)⟩
  rcases List.mem_cons.mp hw with rfl | hw
  · exact (gmt_spec hM').2.2.2.2.2.1
  · exact hw
theorem g_cat_sum {ad : Nat → Nat} (rest : List gv) : ((rest.map (gval ad)).map fun v => v.category).sum = (rest.map g_cat).sum := by
  rw [List.map_map]
  congr 1
  apply List.map_congr_left
  intro v _
  rcases v with _ | a | a | r
  · rfl
  · rfl
  · rfl
  · rcases r with r | r | r <;> rfl
section GMAIN
variable {p : Program} {l : Launch} {e : Env} {R : Room} {s : State} {m : MethodId} {args : Array Value} {below : List Frame} {meth : Method} {c : Code} {Q : State → Prop} {A : Nat → Prop} {D : va_G} {ad : Nat → Nat} {cI cJ : ClassId} {M pc idx : Nat} {ls st : List gv} {μ : gM} {c' : gF}
theorem s_math (C0 : gCx p s m args meth c A D ad cI cJ M) (hok : gokl st) (hlen : ls.length = mL M) {w pp : Nat} (hm : gmx (mO M) idx = some (w, pp)) (hdg : decode (mB M) pc = .ok (.invokestatic idx, 3)) (h : g_math M pc w ls st μ = some (.inl c')) (k : gWf p l e (gRm M) s m args below meth c Q A D ad cI cJ c'.1 c'.2.1 c'.2.2.1 c'.2.2.2) : gWf p l e (gRm M) s m args below meth c Q A D ad cI cJ pc ls st μ := by
  obtain ⟨hx, hb, hr, hml, hown, hts, hlk, hKK, hA, hAd, hin⟩ := C0
  have hlw := gmx_spec hm
  obtain ⟨m1, m2, m3, m4, m5⟩ := gmath_ws
  have up : ∀ w ∈ gTB, w.before args s = true := fun w hw => hts w (List.mem_cons_of_mem _ hw)
  unfold g_math at h
  split at h
  · rename_i b a r
    split at h
    · rename_i hz
      cases h
      have hb' : (Int32.ofInt b).toInt = b := hok _ List.mem_cons_self
      have ha' : (Int32.ofInt a).toInt = a := hok (some (.inl a)) (List.mem_cons_of_mem _ List.mem_cons_self)
      intro H locs lsv hP hS hl
      have := k H locs lsv hP hS hl
      dsimp only at this
      have hsz : c.maxLocals = lsv.size := by rw [hml, hl.1, hlen]
      have hsum : ((r.map (gval ad)).map fun v => v.category).sum + 13 ≤ (gRm M).locals := by
        rw [g_cat_sum]
        show _ ≤ mZ M
        omega
      by_cases hw : w = 0
      · rw [if_pos hw] at hlw this
        refine va_mmin (ls := lsv) (x := Int32.ofInt a) (y := Int32.ofInt b) (rest := r.map (gval ad)) hx hb hsz hown (up _ hlw) (up _ m1) (up _ m3) (up _ m4) hz.1 hsum (Nat.zero_le _) (Nat.zero_le _) hdg ?_
        have e : (if Int32.ofInt b < Int32.ofInt a then Int32.ofInt b else Int32.ofInt a) = Int32.ofInt (if b < a then b else a) := by
          by_cases q : b < a
          · rw [if_pos q, if_pos ((g_lt hb' ha').mpr q)]
          · rw [if_neg q, if_neg (fun z => q ((g_lt hb' ha').mp z))]
        rw [e]
        exact this
      · rw [if_neg hw] at hlw this
        refine va_mmax (ls := lsv) (x := Int32.ofInt a) (y := Int32.ofInt b) (rest := r.map (gval ad)) hx hb hsz hown (up _ hlw) (up _ m2) (up _ m3) (up _ m5) hz.1 hsum (Nat.zero_le _) (Nat.zero_le _) hdg ?_
        have e : (if Int32.ofInt a < Int32.ofInt b then Int32.ofInt b else Int32.ofInt a) = Int32.ofInt (if a < b then b else a) := by
          by_cases q : a < b
          · rw [if_pos q, if_pos ((g_lt ha' hb').mpr q)]
          · rw [if_neg q, if_neg (fun z => q ((g_lt ha' hb').mp z))]
        rw [e]
        exact this
    · cases h
  · cases h
theorem gcl_own_all : ((List.range 11).all fun o => decide ((gcl o).1 = gown o)) = true := by decide +kernel
theorem gcl_own {o : Nat} (h : o < 11) : (gcl o).1 = gown o := of_decide_eq_true (List.all_eq_true.mp gcl_own_all o (List.mem_range.mpr h))
/-- a call, once the callee keeps its contract -/
theorem s_call (hM : M < gMT.length) (C0 : gCx p s m args meth c A D ad cI cJ M) (hok : gokl st) (hlen : ls.length = mL M) {b : Bool} {M' : Nat} {as : List gv} (hdg : decode (mB M) pc = .ok (if b = true then .invokestatic idx else .invokevirtual idx, 3)) (h : g_call M pc idx b ls st μ = some (.inr (.inl (M', as, c')))) {r : Int} {μ' : gM}
    (hmet : ∀ sz, gMet l D ad cI cJ M' as μ r μ' sz) (k : gWf p l e (gRm M) s m args below meth c Q A D ad cI cJ c'.1 c'.2.1 (g_back M' r c'.2.2.1) μ') : gWf p l e (gRm M) s m args below meth c Q A D ad cI cJ pc ls st μ := by
  obtain ⟨hx, hb, hr, hml, hown, hts, hlk, hKK, hA, hAd, hin⟩ := C0
  obtain ⟨so, q1, q2, q3, rest, hm, hbs, hfit, rfl, hasl, hsum, hexp, hrcv, rfl⟩ := g_call_inv h
  obtain ⟨hM', hs4, hlw, hsel⟩ := gml_spec hm
  obtain ⟨hpl, hcls, hn1, hn2, hnp, hcw, hiw, hrt⟩ := gmt_spec hM'
  have up : ∀ w ∈ gTB, w.before args s = true := fun w hw => hts w (List.mem_cons_of_mem _ hw)
  unfold g_fit at hfit
  rw [Bool.and_eq_true, decide_eq_true_eq, decide_eq_true_eq] at hfit
  intro H locs lsv hP hS hl
  have hsz : lsv.size = c.maxLocals := by rw [hml, hl.1, hlen]
  have hfree : ∀ q, gAd ad H.size q → A q := by
    rintro q (⟨k0, h1, rfl⟩ | h1)
    · exact hAd k0 h1
    · exact hA q (Nat.le_trans hS.1 h1)
  have hpre : ∀ U : State, U.heap = H → s.WarmedH U.vm → gPc D ad cI cJ as μ H.size (as.map (gval ad)).toArray U := fun U hU hW => ⟨rfl, by rw [hU], by rw [hU]; exact hP, gKK.warm hW hKK⟩
  have hW8 : 2 * (F0 m pc lsv ((as.reverse ++ rest).map (gval ad))).monitorRoom + ((rest.map (gval ad)).map fun v => v.category).sum ≤ 8 := lv_room (by rw [g_cat_sum]; exact hsum)
  have hCF : CallFix p m c (mB M) (mL M) s args (gWs M) (gown (mO M)) := ⟨hx, hb, hml, hown, hts⟩
  have hlsz : (F0 m pc lsv ((as.reverse ++ rest).map (gval ad))).locals.size = mL M := by show lsv.size = _; rw [hl.1, hlen]
  have hrun : va_Run p l e (gRm M) s m args below meth c H locs 0 0 0 0 (F0 m pc lsv ((as.reverse ++ rest).map (gval ad))) (rest.map (gval ad)) (gQ D ad cI cJ M' r μ' (gAd ad H.size) (as.map (gval ad)).toArray) (gAd ad H.size) := by
    have hst : (F0 m pc lsv ((as.reverse ++ rest).map (gval ad))).stack = (as.map (gval ad)).reverse ++ rest.map (gval ad) := by
      show (as.reverse ++ rest).map (gval ad) = _
      rw [List.map_append, List.map_reverse]
    have hB : ∀ n, n = g_np M' → (∀ sig, parseMethodDescriptor (mY M').desc = some sig → n = sig.parameters.length) := by
      intro n hn sig hsig
      rw [hn]
      rw [hsig] at hnp
      exact (Option.some.inj hnp).symm
    have hR1 : (gRm M').frames + 1 ≤ (gRm M).frames := hfit.1
    have hR2 : 8 + (mL M' + 11) + (gRm M').locals ≤ (gRm M).locals := hfit.2
    by_cases hb1 : b = true
    · -- static
      have hs2 : 2 ≤ so := hbs.mp hb1
      rw [if_pos hb1] at hdg hasl
      have hstat : Cond.static (mY M') ∈ gTB := by
        rcases hsel with ⟨q, -⟩ | ⟨-, q⟩
        · omega
        · exact q
      rcases hlw with ⟨-, hlw⟩ | ⟨-, hlw⟩
      · exact va_runS (As := as.map (gval ad)) (rest := rest.map (gval ad)) (n := as.length) hCF (hmet H.size) ⟨⟨rfl, rfl, hR1, hR2, pay_in hts (gWs_in M M' hM'), List.mem_cons_self, up _ hcw, up _ hiw, ⟨hn1, hn2⟩, hB _ hasl, up _ hlw⟩, up _ hstat⟩ ⟨gQ_blind, hpre⟩ rfl (by rw [List.length_map]) hlsz hst hW8 hdg ⟨Nat.zero_le _, Nat.zero_le _⟩
      · exact va_runSN (As := as.map (gval ad)) (rest := rest.map (gval ad)) (n := as.length) hCF (hmet H.size) ⟨⟨⟨rfl, rfl, hR1, hR2, pay_in hts (gWs_in M M' hM'), List.mem_cons_self⟩, up _ hcw, up _ hiw, ⟨hn1, hn2⟩, hB _ hasl, va_Nw.use rfl (hKK.2 _ hlw)⟩, up _ hstat, trivial⟩ ⟨gQ_blind, hpre⟩ rfl (by rw [List.length_map]) hlsz hst hW8 hdg ⟨Nat.zero_le _, Nat.zero_le _⟩
    · have hs2 : ¬ 2 ≤ so := fun q => hb1 (hbs.mpr q)
      rw [if_neg hb1] at hdg hasl
      have hsv : Cond.instanceMethod (mY M') ∈ gTB ∧ Cond.selects (mY M').cls (mY M') (mY M') ∈ gTB := by
        rcases hsel with ⟨-, q⟩ | ⟨q, -⟩
        · exact q
        · exact absurd q hs2
      have hrc : ∃ k0 as', as = gO (mO M') k0 :: as' := by
        rcases hrcv with q | q
        · exact absurd q hb1
        · unfold g_rcv at q
          split at q
          · exact ⟨_, _, by rw [of_decide_eq_true q]; rfl⟩
          · cases q
      obtain ⟨k0, as', rfl⟩ := hrc
      have hly : gLY[k0]? = some (0, mO M') := hok (gO (mO M') k0) (List.mem_append_left _ (List.mem_reverse.mpr List.mem_cons_self))
      have ho : mO M' < 11 := (gly_spec hly).1
      have hcl : gCL[mO M']? = some (gcl (mO M')) := by
        unfold gcl
        rw [List.getD_eq_getElem?_getD, List.getElem?_eq_getElem (show mO M' < gCL.length from ho)]
        rfl
      have hcell := va_recv hKK.1 hP hcl (q0 := k0) (a := ad k0) (by rw [gws_at (g_lt_of hly), gent_obj hly])
      rw [show (gcl (mO M')).1 = (mY M').cls by rw [hcls]; exact gcl_own ho] at hcell
      have hst' : (F0 m pc lsv (((gO (mO M') k0 :: as').reverse ++ rest).map (gval ad))).stack = (as'.map (gval ad)).reverse ++ .ref (ad k0) :: rest.map (gval ad) := by
        rw [hst, List.map_cons, List.reverse_cons, List.append_assoc]
        rfl
      have hn' : as'.length = g_np M' := by simpa using hasl
      rcases hlw with ⟨-, hlw⟩ | ⟨-, hlw⟩
      · exact va_runV (C := (mY M').cls) (b := ad k0) (As := as'.map (gval ad)) (rest := rest.map (gval ad)) (n := as'.length) hCF (hmet H.size) ⟨⟨rfl, rfl, hR1, hR2, pay_in hts (gWs_in M M' hM'), List.mem_cons_self, up _ hcw, up _ hiw, ⟨hn1, hn2⟩, hB _ hn', up _ hlw⟩, up _ hsv.1, up _ hsv.2⟩ ⟨gQ_blind, hcell, hpre⟩ rfl (by rw [List.length_map]) hlsz hst' hW8 hdg ⟨Nat.zero_le _, Nat.zero_le _⟩
      · exact va_runVN (C := (mY M').cls) (b := ad k0) (As := as'.map (gval ad)) (rest := rest.map (gval ad)) (n := as'.length) hCF (hmet H.size) ⟨⟨⟨rfl, rfl, hR1, hR2, pay_in hts (gWs_in M M' hM'), List.mem_cons_self⟩, up _ hcw, up _ hiw, ⟨hn1, hn2⟩, hB _ hn', va_Nw.use rfl (hKK.2 _ hlw)⟩, up _ hsv.1, up _ hsv.2⟩ ⟨gQ_blind, hcell, hpre⟩ rfl (by rw [List.length_map]) hlsz hst' hW8 hdg ⟨Nat.zero_le _, Nat.zero_le _⟩
  rw [show as.reverse ++ rest = as.reverse ++ rest from rfl]
  refine va_callg hrun hS (fun q _ h => hfree q h) hfree (fun H1 locs1 _ _ hP1 hS1 => ?_)
  have := k H1 locs1 lsv hP1 hS1 hl
  dsimp only at this
  rw [g_back_val]
  exact this
end GMAIN
