/-! steps that read and write cells -/
theorem gent_obj {ad : Nat → Nat} {cI cJ : ClassId} {μ : gM} {k ci : Nat} (h : gLY[k]? = some (0, ci)) : gent ad cI cJ μ k = .inr (ci, (gFD.getD ci []).mapIdx (gfval ad μ k)) := by
  unfold gent
  rw [h]
  rfl
theorem gent_arr {ad : Nat → Nat} {cI cJ : ClassId} {μ : gM} {k n : Nat} (h : gLY[k]? = some (1, n)) : gent ad cI cJ μ k = .inl (cI, n, .inl (fun j => Int32.ofInt (μ k j))) := by
  unfold gent
  rw [h]
  rfl
theorem gent_larr {ad : Nat → Nat} {cI cJ : ClassId} {μ : gM} {k n : Nat} (h : gLY[k]? = some (2, n)) : gent ad cI cJ μ k = .inl (cJ, n, .inr (.inl (fun j => Int64.ofInt (μ k j)))) := by
  unfold gent
  rw [h]
  rfl
theorem g_lt_of {k : Nat} {x : Nat × Nat} (h : gLY[k]? = some x) : k < gLY.length := (List.getElem?_eq_some_iff.mp h).1
theorem gfv_val {ad : Nat → Nat} {μ : gM} {ci k j : Nat} {v : gv} (h : g_fv μ ci k j = some v) : ((gFD.getD ci []).mapIdx (gfval ad μ k))[j]? = some (gval ad v) := by
  rw [List.getElem?_mapIdx]
  unfold g_fv at h
  split at h
  · rename_i o x hd; cases h; rw [show (gFD.getD ci [])[j]? = some (0, o, x) from hd]; rfl
  · rename_i o x hd; cases h; rw [show (gFD.getD ci [])[j]? = some (1, o, x) from hd]; rfl
  · rename_i o x hd; cases h; rw [show (gFD.getD ci [])[j]? = some (2, o, x) from hd]; rfl
  · rename_i o x hd; cases h; rw [show (gFD.getD ci [])[j]? = some (3, o, x) from hd]; rfl
  · rename_i o x hd; cases h; rw [show (gFD.getD ci [])[j]? = some (4, o, x) from hd]; rfl
  · rename_i o x hd; cases h; rw [show (gFD.getD ci [])[j]? = some (5, o, x) from hd]; rfl
  · cases h
theorem gent_put {ad : Nat → Nat} {cI cJ : ClassId} {μ : gM} {k ci j t o x : Nat} {a : Int} (h : gLY[k]? = some (0, ci)) (hd : gfd ci j = some (t, o, x)) : gent ad cI cJ (gS μ k j a) k = .inr (ci, ((gFD.getD ci []).mapIdx (gfval ad μ k)).set j (gfval ad (gS μ k j a) k j (t, o, x))) := by
  rw [gent_obj h]
  congr 2
  apply List.ext_getElem?
  intro i
  rw [List.getElem?_mapIdx, List.getElem?_set]
  by_cases hi : j = i
  · subst hi
    have hj : (gFD.getD ci [])[j]? = some (t, o, x) := hd
    rw [hj, if_pos rfl, if_pos (by rw [List.length_mapIdx]; exact (List.getElem?_eq_some_iff.mp hj).1)]
    rfl
  · rw [if_neg hi, List.getElem?_mapIdx]
    congr 1
    funext d
    have e : gS μ k j a k i = μ k i := by
      unfold gS
      rw [if_neg]
      rintro ⟨-, q⟩
      omega
    unfold gfval
    rw [e]
theorem g_ix {i : Int} (hi : (Int32.ofInt i).toInt = i) (h0 : 0 ≤ i) : (((Int32.ofInt i).toNatClampNeg : Nat) : Int) = i := by
  show (((Int32.ofInt i).toInt.toNat : Nat) : Int) = i
  rw [hi]
  exact Int.toNat_of_nonneg h0
theorem g_upd {μ : gM} {k : Nat} {i a : Int} (hi : (Int32.ofInt i).toInt = i) (h0 : 0 ≤ i) : upd (fun j => Int32.ofInt (μ k j)) (Int32.ofInt i).toNatClampNeg (Int32.ofInt a) = fun j : Nat => Int32.ofInt (gS μ k i a k j) := by
  have e := g_ix hi h0
  funext j
  unfold upd gS
  by_cases hj : j = (Int32.ofInt i).toNatClampNeg
  · rw [if_pos hj, if_pos ⟨rfl, by rw [hj]; exact e⟩]
  · rw [if_neg hj, if_neg]
    rintro ⟨-, q⟩
    omega
theorem g_updL {μ : gM} {k : Nat} {i a : Int} (hi : (Int32.ofInt i).toInt = i) (h0 : 0 ≤ i) : vp_updL (fun j => Int64.ofInt (μ k j)) (Int32.ofInt i).toNatClampNeg (Int64.ofInt a) = fun j : Nat => Int64.ofInt (gS μ k i a k j) := by
  have e := g_ix hi h0
  funext j
  unfold vp_updL gS
  by_cases hj : j = (Int32.ofInt i).toNatClampNeg
  · rw [if_pos hj, if_pos ⟨rfl, by rw [hj]; exact e⟩]
  · rw [if_neg hj, if_neg]
    rintro ⟨-, q⟩
    omega
section GHEAP
variable {p : Program} {l : Launch} {e : Env} {R : Room} {s : State} {m : MethodId} {args : Array Value} {below : List Frame} {meth : Method} {c : Code} {Q : State → Prop} {A : Nat → Prop} {D : va_G} {ad : Nat → Nat} {cI cJ : ClassId} {M pc idx : Nat} {ls st : List gv} {μ : gM} {c' : gF}
theorem s_get (C0 : gCx p s m args meth c A D ad cI cJ M) (hok : gokl st) (hdg : decode (mB M) pc = .ok (.getfield idx, 3)) (h : g_get (mO M) (pc + 3) idx ls st μ = some (.inl c')) (k : gWf p l e R s m args below meth c Q A D ad cI cJ c'.1 c'.2.1 c'.2.2.1 c'.2.2.2) : gWf p l e R s m args below meth c Q A D ad cI cJ pc ls st μ := by
  obtain ⟨hx, hb, hr, hml, hown, hts, hlk, hKK, hA, hAd, hin⟩ := C0
  unfold g_get at h
  split at h
  · rename_i ci j n9 p9 cc k0 r hf
    split at h
    · rename_i hc
      subst hc
      obtain ⟨v, hv, rfl⟩ := g_push_inv h
      obtain ⟨hcl, hj, hT1, hw⟩ := gfl_spec hf
      have hly : gLY[k0]? = some (0, cc) := hok _ List.mem_cons_self
      have hk0 := g_lt_of hly
      have hws := (gi_all cc _ hcl).1
      intro H locs lsv hP hS hl
      have hat : (gws ad cI cJ μ)[k0]? = some (ad k0, .inr (cc, (gFD.getD cc []).mapIdx (gfval ad μ k0))) := by rw [gws_at hk0, gent_obj hly]
      rcases hw with ⟨-, hw⟩ | hw
      · exact va_get (D := D) (ci := cc) (v := gval ad v) (C := (gcl cc).1) (T := (gcl cc).2.1) (N := (gcl cc).2.2) hx hb hts (fun w hw => List.mem_cons_of_mem _ (hws w hw)) hown hKK.1 hP k0 hat hcl j hj (hts _ (List.mem_cons_of_mem _ hw)) (fun _ h9 => by rw [← hT1]; exact h9) (gfv_val hv) hdg (k H locs lsv hP hS hl)
      · exact va_getN (D := D) (ci := cc) (v := gval ad v) (C := (gcl cc).1) (T := (gcl cc).2.1) (N := (gcl cc).2.2) hx hb hts (fun w hw => List.mem_cons_of_mem _ (hws w hw)) hown hKK.1 hP k0 hat hcl j hj (va_Nw.use rfl (hKK.2 _ hw)) (fun _ h9 => by rw [← hT1]; exact h9) (gfv_val hv) hdg (k H locs lsv hP hS hl)
    · cases h
  · cases h
/-- the write itself, of a value of a sort -/
theorem s_put1 (C0 : gCx p s m args meth c A D ad cI cJ M) (hdg : decode (mB M) pc = .ok (.putfield idx, 3)) {cc j n9 p9 k0 t o x : Nat} {a : Int} {ty : FieldType} {w : Value} {r : List gv} (hf : gfl (mO M) idx = some (cc, j, n9, p9)) (hd : gfd cc j = some (t, o, x)) (hly : gLY[k0]? = some (0, cc))
    (hty : parseFieldDescriptor ((gcl cc).2.1 j).2.2.1 = some ty ∧ ((gcl cc).2.1 j).2.2.2 = false) (hn : narrow ty w = w) (hfit : fits ty w = true) (hw : gfval ad (gS μ k0 j a) k0 j (t, o, x) = w)
    (k : gWf p l e R s m args below meth c Q A D ad cI cJ (pc + 3) ls r (gS μ k0 j a)) {H : Heap} {locs : List Loc} {lsv : Array Slot} (hP : va_P D gCL (gws ad cI cJ μ) H) (hS : va_S A s.heap H locs) (hl : lv_has lsv ls.length (g_cl ad ls)) :
    W p l e R s m args below meth c H locs 0 0 Q (F0 m pc lsv (w :: .ref (ad k0) :: r.map (gval ad))) := by
  obtain ⟨hx, hb, hr, hml, hown, hts, hlk, hKK, hA, hAd, hin⟩ := C0
  obtain ⟨hcl, hj, hT1, hlw⟩ := gfl_spec hf
  have hk0 := g_lt_of hly
  obtain ⟨hws, hnm, ty0, hty0⟩ := gi_all cc _ hcl
  have hD : va_D A (gws ad cI cJ μ) := gws_D hin hAd
  have hat : (gws ad cI cJ μ)[k0]? = some (ad k0, .inr (cc, (gFD.getD cc []).mapIdx (gfval ad μ k0))) := by rw [gws_at hk0, gent_obj hly]
  have hlen : j < ((gFD.getD cc []).mapIdx (gfval ad μ k0)).length := by rw [List.length_mapIdx]; exact (List.getElem?_eq_some_iff.mp hd).1
  have hnew : (gws ad cI cJ μ).set k0 (ad k0, .inr (cc, ((gFD.getD cc []).mapIdx (gfval ad μ k0)).set j w)) = gws ad cI cJ (gS μ k0 j a) := by
    rw [← gws_set (μ := μ) (μ' := gS μ k0 j a) (k := k0) gS_ne, gent_put hly hd, hw]
  rcases hlw with ⟨-, hlw⟩ | hlw
  · refine va_put (D := D) (ci := cc) (v := w) (ty := ty) (C := (gcl cc).1) (T := (gcl cc).2.1) (N := (gcl cc).2.2) hx hb hts (fun w hw => List.mem_cons_of_mem _ (hws w hw)) ty0 hty0 hnm hown hKK.1 hP hD hS k0 hat hcl j hj (hts _ (List.mem_cons_of_mem _ hlw)) (fun _ h9 => by rw [← hT1]; exact h9) hty.2 hty.1 hn hfit hlen hdg (fun H1 locs1 hP1 hD1 hS1 => ?_)
    rw [hnew] at hP1
    exact k H1 locs1 lsv hP1 hS1 hl
  · refine va_putN (D := D) (ci := cc) (v := w) (ty := ty) (C := (gcl cc).1) (T := (gcl cc).2.1) (N := (gcl cc).2.2) hx hb hts (fun w hw => List.mem_cons_of_mem _ (hws w hw)) ty0 hty0 hnm hown hKK.1 hP hD hS k0 hat hcl j hj (va_Nw.use rfl (hKK.2 _ hlw)) (fun _ h9 => by rw [← hT1]; exact h9) hty.2 hty.1 hn hfit hlen hdg (fun H1 locs1 hP1 hD1 hS1 => ?_)
    rw [hnew] at hP1
    exact k H1 locs1 lsv hP1 hS1 hl
theorem gS_at (μ : gM) (k : Nat) (i v : Int) : gS μ k i v k i = v := by
  unfold gS
  rw [if_pos ⟨rfl, rfl⟩]
theorem s_put (C0 : gCx p s m args meth c A D ad cI cJ M) (hok : gokl st) (hdg : decode (mB M) pc = .ok (.putfield idx, 3)) (h : g_put (mO M) (pc + 3) idx ls st μ = some (.inl c')) (k : gWf p l e R s m args below meth c Q A D ad cI cJ c'.1 c'.2.1 c'.2.2.1 c'.2.2.2) : gWf p l e R s m args below meth c Q A D ad cI cJ pc ls st μ := by
  unfold g_put at h
  split at h
  · rename_i ci j n9 p9 hf
    have hcl := (gfl_spec hf).1
    have hc11 : ci < 11 := (List.getElem?_eq_some_iff.mp hcl).1
    split at h
    · rename_i o x a cc k0 r hd
      split at h
      · rename_i hc
        subst hc
        cases h
        have hly : gLY[k0]? = some (0, cc) := hok (some (.inr (.inr (.inl (cc, k0))))) (List.mem_cons_of_mem _ List.mem_cons_self)
        intro H locs lsv hP hS hl
        exact s_put1 C0 hdg hf hd hly ((gfd_spec hc11 hd).2.1 rfl) (w := .int (Int32.ofInt a)) rfl rfl (by show Value.int (Int32.ofInt (gS μ k0 j a k0 j)) = _; rw [gS_at]) k hP hS hl
      · cases h
    · rename_i o x a cc k0 r hd
      split at h
      · rename_i hc
        subst hc
        split at h
        · rename_i ha
          cases h
          have hly : gLY[k0]? = some (0, cc) := hok (some (.inr (.inr (.inl (cc, k0))))) (List.mem_cons_of_mem _ List.mem_cons_self)
          intro H locs lsv hP hS hl
          exact s_put1 C0 hdg hf hd hly ((gfd_spec hc11 hd).2.2.1 rfl) (w := .int (Int32.ofInt a)) (by rcases ha with rfl | rfl <;> rfl) (by rcases ha with rfl | rfl <;> rfl) (by show Value.int (Int32.ofInt (gS μ k0 j a k0 j)) = _; rw [gS_at]) k hP hS hl
        · cases h
      · cases h
    · rename_i o x a cc k0 r hd
      split at h
      · rename_i hc
        subst hc
        cases h
        have hly : gLY[k0]? = some (0, cc) := hok (some (.inr (.inr (.inl (cc, k0))))) (List.mem_cons_of_mem _ List.mem_cons_self)
        intro H locs lsv hP hS hl
        exact s_put1 C0 hdg hf hd hly ((gfd_spec hc11 hd).2.2.2 rfl) (w := .long (Int64.ofInt a)) rfl rfl (by show Value.long (Int64.ofInt (gS μ k0 j a k0 j)) = _; rw [gS_at]) k hP hS hl
      · cases h
    · cases h
  · cases h
theorem s_iald (C0 : gCx p s m args meth c A D ad cI cJ M) (hok : gokl st) (hdg : decode (mB M) pc = .ok (.iaload, 1)) (h : g_iald (pc + 1) ls st μ = some (.inl c')) (k : gWf p l e R s m args below meth c Q A D ad cI cJ c'.1 c'.2.1 c'.2.2.1 c'.2.2.2) : gWf p l e R s m args below meth c Q A D ad cI cJ pc ls st μ := by
  obtain ⟨hx, hb, hr, hml, hown, hts, hlk, hKK, hA, hAd, hin⟩ := C0
  unfold g_iald at h
  split at h
  · rename_i i n k0 r
    split at h
    · rename_i hn
      cases h
      have hi : (Int32.ofInt i).toInt = i := hok _ List.mem_cons_self
      have hly : gLY[k0]? = some (1, n) := hok (some (.inr (.inr (.inr (.inl (n, k0)))))) (List.mem_cons_of_mem _ List.mem_cons_self)
      intro H locs lsv hP hS hl
      refine va_iald hx hb hKK.1 hP k0 0 (a := ad k0) (cA := cI) (n := n) (f := fun j => Int32.ofInt (μ k0 j)) (by rw [gws_at (g_lt_of hly), gent_arr hly]) rfl (i := Int32.ofInt i) (vp_in_iff.mpr ⟨by rw [hi]; exact hn.1, by rw [hi]; exact hn.2⟩) hdg ?_
      have := k H locs lsv hP hS hl
      dsimp only at this ⊢
      rw [g_ix hi hn.1]
      exact this
    · cases h
  · cases h
theorem s_lald (C0 : gCx p s m args meth c A D ad cI cJ M) (hok : gokl st) (hdg : decode (mB M) pc = .ok (.laload, 1)) (h : g_lald (pc + 1) ls st μ = some (.inl c')) (k : gWf p l e R s m args below meth c Q A D ad cI cJ c'.1 c'.2.1 c'.2.2.1 c'.2.2.2) : gWf p l e R s m args below meth c Q A D ad cI cJ pc ls st μ := by
  obtain ⟨hx, hb, hr, hml, hown, hts, hlk, hKK, hA, hAd, hin⟩ := C0
  unfold g_lald at h
  split at h
  · rename_i i n k0 r
    split at h
    · rename_i hn
      cases h
      have hi : (Int32.ofInt i).toInt = i := hok _ List.mem_cons_self
      have hly : gLY[k0]? = some (2, n) := hok (some (.inr (.inr (.inr (.inr (n, k0)))))) (List.mem_cons_of_mem _ List.mem_cons_self)
      intro H locs lsv hP hS hl
      refine va_lald hx hb hKK.1 hP k0 1 (a := ad k0) (cA := cJ) (n := n) (f := fun j => Int64.ofInt (μ k0 j)) (by rw [gws_at (g_lt_of hly), gent_larr hly]) rfl (i := Int32.ofInt i) (vp_in_iff.mpr ⟨by rw [hi]; exact hn.1, by rw [hi]; exact hn.2⟩) hdg ?_
      have := k H locs lsv hP hS hl
      dsimp only at this ⊢
      rw [g_ix hi hn.1]
      exact this
    · cases h
  · cases h
theorem s_iast (C0 : gCx p s m args meth c A D ad cI cJ M) (hok : gokl st) (hdg : decode (mB M) pc = .ok (.iastore, 1)) (h : g_iast (pc + 1) ls st μ = some (.inl c')) (k : gWf p l e R s m args below meth c Q A D ad cI cJ c'.1 c'.2.1 c'.2.2.1 c'.2.2.2) : gWf p l e R s m args below meth c Q A D ad cI cJ pc ls st μ := by
  obtain ⟨hx, hb, hr, hml, hown, hts, hlk, hKK, hA, hAd, hin⟩ := C0
  unfold g_iast at h
  split at h
  · rename_i v i n k0 r
    split at h
    · rename_i hn
      cases h
      have hi : (Int32.ofInt i).toInt = i := hok (some (.inl i)) (List.mem_cons_of_mem _ List.mem_cons_self)
      have hly : gLY[k0]? = some (1, n) := hok (some (.inr (.inr (.inr (.inl (n, k0)))))) (List.mem_cons_of_mem _ (List.mem_cons_of_mem _ List.mem_cons_self))
      intro H locs lsv hP hS hl
      refine va_iast hx hb hKK.1 hP (gws_D hin hAd) hS k0 0 (a := ad k0) (cA := cI) (n := n) (f := fun j => Int32.ofInt (μ k0 j)) (by rw [gws_at (g_lt_of hly), gent_arr hly]) rfl (i := Int32.ofInt i) (x := Int32.ofInt v) (vp_in_iff.mpr ⟨by rw [hi]; exact hn.1, by rw [hi]; exact hn.2⟩) hdg (fun H1 locs1 hP1 hD1 hS1 => ?_)
      rw [g_upd hi hn.1] at hP1
      have e : (gws ad cI cJ μ).set k0 (ad k0, .inl (cI, n, .inl (fun j : Nat => Int32.ofInt (gS μ k0 i v k0 j)))) = gws ad cI cJ (gS μ k0 i v) := by
        rw [← gws_set (μ := μ) (μ' := gS μ k0 i v) (k := k0) gS_ne, gent_arr hly]
      rw [e] at hP1
      exact k H1 locs1 lsv hP1 hS1 hl
    · cases h
  · cases h
theorem s_last (C0 : gCx p s m args meth c A D ad cI cJ M) (hok : gokl st) (hdg : decode (mB M) pc = .ok (.lastore, 1)) (h : g_last (pc + 1) ls st μ = some (.inl c')) (k : gWf p l e R s m args below meth c Q A D ad cI cJ c'.1 c'.2.1 c'.2.2.1 c'.2.2.2) : gWf p l e R s m args below meth c Q A D ad cI cJ pc ls st μ := by
  obtain ⟨hx, hb, hr, hml, hown, hts, hlk, hKK, hA, hAd, hin⟩ := C0
  unfold g_last at h
  split at h
  · rename_i v i n k0 r
    split at h
    · rename_i hn
      cases h
      have hi : (Int32.ofInt i).toInt = i := hok (some (.inl i)) (List.mem_cons_of_mem _ List.mem_cons_self)
      have hly : gLY[k0]? = some (2, n) := hok (some (.inr (.inr (.inr (.inr (n, k0)))))) (List.mem_cons_of_mem _ (List.mem_cons_of_mem _ List.mem_cons_self))
      intro H locs lsv hP hS hl
      refine va_last hx hb hKK.1 hP (gws_D hin hAd) hS k0 1 (a := ad k0) (cA := cJ) (n := n) (f := fun j => Int64.ofInt (μ k0 j)) (by rw [gws_at (g_lt_of hly), gent_larr hly]) rfl (i := Int32.ofInt i) (x := Int64.ofInt v) (vp_in_iff.mpr ⟨by rw [hi]; exact hn.1, by rw [hi]; exact hn.2⟩) hdg (fun H1 locs1 hP1 hD1 hS1 => ?_)
      rw [g_updL hi hn.1] at hP1
      have e : (gws ad cI cJ μ).set k0 (ad k0, .inl (cJ, n, .inr (.inl (fun j : Nat => Int64.ofInt (gS μ k0 i v k0 j))))) = gws ad cI cJ (gS μ k0 i v) := by
        rw [← gws_set (μ := μ) (μ' := gS μ k0 i v) (k := k0) gS_ne, gent_larr hly]
      rw [e] at hP1
      exact k H1 locs1 lsv hP1 hS1 hl
    · cases h
  · cases h
theorem s_alen (C0 : gCx p s m args meth c A D ad cI cJ M) (hok : gokl st) (hdg : decode (mB M) pc = .ok (.arraylength, 1)) (h : g_alen (pc + 1) ls st μ = some (.inl c')) (k : gWf p l e R s m args below meth c Q A D ad cI cJ c'.1 c'.2.1 c'.2.2.1 c'.2.2.2) : gWf p l e R s m args below meth c Q A D ad cI cJ pc ls st μ := by
  obtain ⟨hx, hb, hr, hml, hown, hts, hlk, hKK, hA, hAd, hin⟩ := C0
  unfold g_alen at h
  split at h
  · rename_i n k0 r
    cases h
    have hly : gLY[k0]? = some (1, n) := hok (some (.inr (.inr (.inr (.inl (n, k0)))))) List.mem_cons_self
    intro H locs lsv hP hS hl
    exact va_alen hx hb hKK.1 hP k0 0 (a := ad k0) (cA := cI) (by rw [gws_at (g_lt_of hly), gent_arr hly]) rfl (v := Int32.ofInt n) rfl hdg (k H locs lsv hP hS hl)
  · rename_i n k0 r
    cases h
    have hly : gLY[k0]? = some (2, n) := hok (some (.inr (.inr (.inr (.inr (n, k0)))))) List.mem_cons_self
    intro H locs lsv hP hS hl
    exact va_alen hx hb hKK.1 hP k0 1 (a := ad k0) (cA := cJ) (by rw [gws_at (g_lt_of hly), gent_larr hly]) rfl (v := Int32.ofInt n) rfl hdg (k H locs lsv hP hS hl)
  · cases h
end GHEAP
