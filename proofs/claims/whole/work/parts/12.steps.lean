theorem g_ret_next {M : Nat} {st : List gv} {c' : gF} (h : g_ret M st = some (.inl c')) : False := by
  unfold g_ret at h
  split at h
  · cases h
  · split at h
    · cases h
    · cases h
  · cases h
theorem g_lret_next {M : Nat} {st : List gv} {c' : gF} (h : g_lret M st = some (.inl c')) : False := by
  unfold g_lret at h
  split at h
  · cases h
  · cases h
theorem g_vret_next {M : Nat} {st : List gv} {c' : gF} (h : g_vret M st = some (.inl c')) : False := by
  unfold g_vret at h
  split at h
  · cases h
  · cases h
/-! the steps together, and the soundness of runs -/
section GSTEP
variable {p : Program} {l : Launch} {e : Env} {R : Room} {s : State} {m : MethodId} {args : Array Value} {below : List Frame} {meth : Method} {c : Code} {Q : State → Prop} {A : Nat → Prop} {D : va_G} {ad : Nat → Nat} {cI cJ : ClassId} {M pc idx len : Nat} {ls st : List gv} {μ : gM} {c' : gF} {i : Instr}
theorem s_tsw (hx : p.tables.exec = Jvm.exec) (hb : c.code = mB M) {d lo hi : Int} {offs : Array Int} (hok : gokl st) (hdg : decode (mB M) pc = .ok (.tableswitch d lo hi offs, len)) (h : g_tsw pc d lo hi offs ls st μ = some (.inl c')) (k : gWf p l e R s m args below meth c Q A D ad cI cJ c'.1 c'.2.1 c'.2.2.1 c'.2.2.2) : gWf p l e R s m args below meth c Q A D ad cI cJ pc ls st μ := by
  unfold g_tsw at h
  split at h
  · rename_i a r
    have ha : (Int32.ofInt a).toInt = a := hok _ List.mem_cons_self
    split at h
    · rename_i hc
      obtain ⟨tgt, h1, rfl⟩ := g_to_inv h
      intro H locs lsv hP hS hl
      exact lv_tableOut hx hb hdg (x := Int32.ofInt a) (by rw [ha]; exact hc) h1 (k H locs lsv hP hS hl)
    · rename_i hc
      split at h
      · rename_i off ho
        obtain ⟨tgt, h1, rfl⟩ := g_to_inv h
        intro H locs lsv hP hS hl
        exact lv_tableIn hx hb hdg (x := Int32.ofInt a) (by rw [ha]; exact fun q => hc (Or.inl q)) (by rw [ha]; exact fun q => hc (Or.inr q)) (by rw [ha]; exact ho) h1 (k H locs lsv hP hS hl)
      · cases h
  · cases h
theorem s_lsw (hx : p.tables.exec = Jvm.exec) (hb : c.code = mB M) {d : Int} {ps : Array (Int × Int)} (hok : gokl st) (hdg : decode (mB M) pc = .ok (.lookupswitch d ps, len)) (h : g_lsw pc d ps ls st μ = some (.inl c')) (k : gWf p l e R s m args below meth c Q A D ad cI cJ c'.1 c'.2.1 c'.2.2.1 c'.2.2.2) : gWf p l e R s m args below meth c Q A D ad cI cJ pc ls st μ := by
  unfold g_lsw at h
  split at h
  · rename_i a r
    have ha : (Int32.ofInt a).toInt = a := hok _ List.mem_cons_self
    split at h
    · rename_i hp
      obtain ⟨tgt, h1, rfl⟩ := g_to_inv h
      intro H locs lsv hP hS hl
      exact lv_lookup hx hb hdg (x := Int32.ofInt a) hp (by rw [ha]) h1 (k H locs lsv hP hS hl)
    · cases h
  · cases h
theorem gex_W (C0 : gCx p s m args meth c A D ad cI cJ M) (hok : gokl st) (hlen : ls.length = mL M) (hdg : decode (mB M) pc = .ok (i, len)) (hg : g_len i = len ∨ g_len i = 0) (h : gex M pc len i ls st μ = some (.inl c')) (k : gWf p l e (gRm M) s m args below meth c Q A D ad cI cJ c'.1 c'.2.1 c'.2.2.1 c'.2.2.2) : gWf p l e (gRm M) s m args below meth c Q A D ad cI cJ pc ls st μ := by
  obtain ⟨hx, hb, hr, hml, hown, hts, hlk, hKK, hA, hAd, hin⟩ := id C0
  have up : ∀ w ∈ gTB, w.before args s = true := fun w hw => hts w (List.mem_cons_of_mem _ hw)
  rcases hg with rfl | h0
  · cases i with
    | iconst n => exact s_const (pc1 := pc + 1) (v := gI (Int32.ofInt n).toInt) (gval_I ad _) (fun w => lv_iconst hx hb hdg rfl w) h k
    | bipush n => exact s_const (pc1 := pc + 2) (v := gI (Int8.ofInt n).toInt32.toInt) (gval_I ad _) (fun w => lv_bipush hx hb hdg rfl w) h k
    | sipush n => exact s_const (pc1 := pc + 3) (v := gI (Int16.ofInt n).toInt32.toInt) (gval_I ad _) (fun w => lv_sipush hx hb hdg rfl w) h k
    | lconst n => exact s_const (pc1 := pc + 1) (v := gJ (Int64.ofNat (n : Nat)).toInt) (gval_J ad _) (fun w => lv_lconst hx hb hdg rfl w) h k
    | ldc idx =>
      unfold gex at h
      dsimp only at h
      split at h
      · rename_i v pp hk
        exact s_const (pc1 := pc + 2) (v := gI (Int32.ofInt v).toInt) (gval_I ad _) (fun w => lv_ldc hx hb hown (up _ (gkc_spec hk)) hdg w) h k
      · cases h
    | ldc_w idx =>
      unfold gex at h
      dsimp only at h
      split at h
      · rename_i v pp hk
        exact s_const (pc1 := pc + 3) (v := gI (Int32.ofInt v).toInt) (gval_I ad _) (fun w => lv_ldcw hx hb hown (up _ (gkc_spec hk)) hdg w) h k
      · cases h
    | ldc2_w idx =>
      unfold gex at h
      dsimp only at h
      split at h
      · rename_i v pp hk
        exact s_const (pc1 := pc + 3) (v := gJ (Int64.ofInt v).toInt) (gval_J ad _) (fun w => lv_ldc2 hx hb hown (up _ (gkl_spec hk)) hdg w) h k
      · cases h
    | iload_n q => exact s_ldi (pc1 := pc + 1) (i := q) (fun hlv w => lv_iload_n hx hb hdg rfl hlv w) h k
    | iload q => exact s_ldi (pc1 := pc + 2) (i := q) (fun hlv w => lv_iload hx hb hdg hlv w) h k
    | lload_n q => exact s_ldl (pc1 := pc + 1) (i := q) (fun hlv w => lv_lload_n hx hb hdg rfl hlv w) h k
    | lload q => exact s_ldl (pc1 := pc + 2) (i := q) (fun hlv w => lv_lload hx hb hdg hlv w) h k
    | aload_n q => exact s_lda (pc1 := pc + 1) (i := q) (fun hlv w => lv_aload_n hx hb hdg rfl hlv w) h k
    | aload q => exact s_lda (pc1 := pc + 2) (i := q) (fun hlv w => lv_aload hx hb hdg hlv w) h k
    | istore_n q => exact s_sti (pc1 := pc + 1) (i := q) (fun hl hi kk => lv_istore_n hx hb hdg rfl hl hi rfl kk) h k
    | istore q => exact s_sti (pc1 := pc + 2) (i := q) (fun hl hi kk => lv_istore hx hb hdg hl hi rfl kk) h k
    | lstore_n q => exact s_stl (pc1 := pc + 1) (i := q) (fun hl hi kk => lv_lstore_n hx hb hdg rfl hl hi rfl kk) h k
    | lstore q => exact s_stl (pc1 := pc + 2) (i := q) (fun hl hi kk => lv_lstore hx hb hdg hl hi rfl kk) h k
    | astore_n q => exact s_sta (pc1 := pc + 1) (i := q) (fun hl hi kk => lv_astore_n hx hb hdg rfl hl hi rfl kk) h k
    | astore q => exact s_sta (pc1 := pc + 2) (i := q) (fun hl hi kk => lv_astore hx hb hdg hl hi rfl kk) h k
    | iinc q n => exact s_inc (pc1 := pc + 3) (i := q) (n := n) (fun hl hkk hi kk => lv_iinc hx hb hdg hl hkk rfl hi rfl kk) h k
    | iadd => exact s_i2 (pc1 := pc + 1) (fun w => lv_iadd hx hb hdg w) h k
    | isub => exact s_i2 (pc1 := pc + 1) (fun w => lv_isub hx hb hdg w) h k
    | imul => exact s_i2 (pc1 := pc + 1) (fun w => lv_imul hx hb hdg w) h k
    | iand => exact s_i2 (pc1 := pc + 1) (fun w => lv_iand hx hb hdg w) h k
    | ior => exact s_i2 (pc1 := pc + 1) (fun w => lv_ior hx hb hdg w) h k
    | ixor => exact s_i2 (pc1 := pc + 1) (fun w => lv_ixor hx hb hdg w) h k
    | ishl => exact s_i2 (pc1 := pc + 1) (fun w => lv_ishl hx hb hdg w) h k
    | ishr => exact s_i2 (pc1 := pc + 1) (fun w => lv_ishr hx hb hdg w) h k
    | iushr => exact s_i2 (pc1 := pc + 1) (fun w => lv_iushr hx hb hdg rfl w) h k
    | idiv => exact s_i2n (pc1 := pc + 1) hok (fun hne w => lv_idiv hx hb hdg hne w) h k
    | irem => exact s_i2n (pc1 := pc + 1) hok (fun hne w => lv_irem hx hb hdg hne w) h k
    | ladd => exact s_l2 (pc1 := pc + 1) (fun w => lv_ladd hx hb hdg w) h k
    | lmul => exact s_l2 (pc1 := pc + 1) (fun w => lv_lmul hx hb hdg w) h k
    | land => exact s_l2 (pc1 := pc + 1) (fun w => lv_land hx hb hdg w) h k
    | lor => exact s_l2 (pc1 := pc + 1) (fun w => lv_lor hx hb hdg w) h k
    | lxor => exact s_l2 (pc1 := pc + 1) (fun w => lv_lxor hx hb hdg w) h k
    | ldiv => exact s_l2n (pc1 := pc + 1) hok (fun hne w => lv_ldiv hx hb hdg hne w) h k
    | lrem => exact s_l2n (pc1 := pc + 1) hok (fun hne w => lv_lrem hx hb hdg hne w) h k
    | lshl => exact s_lsh (pc1 := pc + 1) (fun w => lv_lshl hx hb hdg rfl w) h k
    | lcmp => exact s_lcmp (pc1 := pc + 1) hok (fun w => W.lcmp hx hb hdg w) h k
    | i2l => exact s_i2l (pc1 := pc + 1) hok (fun w => lv_i2l hx hb hdg rfl w) h k
    | l2i => exact s_l2i (pc1 := pc + 1) (fun w => lv_l2i hx hb hdg rfl w) h k
    | dup => exact s_dup (pc1 := pc + 1) (fun hv w => lv_dup hx hb hdg hv w) h k
    | dup2 => exact s_dup2 (pc1 := pc + 1) (fun hv hw w => lv_dup2_11 hx hb hdg hv hw w) h k
    | pop => exact s_pop (pc1 := pc + 1) (fun hv w => lv_pop hx hb hdg hv w) h k
    | goto off => exact s_goto (fun ht w => lv_goto hx hb hdg ht w) h k
    | ifCond cd off =>
      cases cd with
      | eq => exact s_if (cd := .eq) hok (fun ht kt kf => lv_if_eq hx hb hdg ht kt kf) h k
      | ne => exact s_if (cd := .ne) hok (fun ht kt kf => lv_if_ne hx hb hdg ht kt (fun q => kf (fun z => z q))) h k
      | lt => exact s_if (cd := .lt) hok (fun ht kt kf => lv_if_lt hx hb hdg ht kt kf) h k
      | ge => exact s_if (cd := .ge) hok (fun ht kt kf => lv_if_ge hx hb hdg ht kt kf) h k
      | gt => exact s_if (cd := .gt) hok (fun ht kt kf => lv_if_gt hx hb hdg ht kt kf) h k
      | le => exact s_if (cd := .le) hok (fun ht kt kf => lv_if_le hx hb hdg ht kt kf) h k
    | if_icmp cd off =>
      cases cd with
      | eq => exact s_if2 (cd := .eq) hok (fun ht kt kf => lv_icmp_eq hx hb hdg ht kt kf) h k
      | ne => exact s_if2 (cd := .ne) hok (fun ht kt kf => lv_icmp_ne hx hb hdg ht kt (fun q => kf (fun z => z q))) h k
      | lt => exact s_if2 (cd := .lt) hok (fun ht kt kf => lv_icmp_lt hx hb hdg ht kt kf) h k
      | ge => exact s_if2 (cd := .ge) hok (fun ht kt kf => lv_icmp_ge hx hb hdg ht kt kf) h k
      | gt => exact s_if2 (cd := .gt) hok (fun ht kt kf => lv_icmp_gt hx hb hdg ht kt kf) h k
      | le => exact s_if2 (cd := .le) hok (fun ht kt kf => lv_icmp_le hx hb hdg ht kt kf) h k
    | tableswitch d lo hi offs => exact s_tsw hx hb hok hdg h k
    | lookupswitch d ps => exact s_lsw hx hb hok hdg h k
    | getfield idx => exact s_get C0 hok hdg h k
    | putfield idx => exact s_put C0 hok hdg h k
    | iaload => exact s_iald C0 hok hdg h k
    | iastore => exact s_iast C0 hok hdg h k
    | laload => exact s_lald C0 hok hdg h k
    | lastore => exact s_last C0 hok hdg h k
    | arraylength => exact s_alen C0 hok hdg h k
    | invokevirtual idx => exact absurd h (fun q => g_call_next q)
    | invokestatic idx =>
      unfold gex at h
      dsimp only at h
      split at h
      · rename_i w pp hm
        exact s_math C0 hok hlen hm hdg h k
      · exact absurd h (fun q => g_call_next q)
    | ireturn => exact absurd h (fun q => g_ret_next q)
    | lreturn => exact absurd h (fun q => g_lret_next q)
    | return_ => exact absurd h (fun q => g_vret_next q)
    | _ => exact nomatch (show (none : gN) = some (.inl c') from h)
  · cases i with
    | tableswitch d lo hi offs => exact s_tsw hx hb hok hdg h k
    | lookupswitch d ps => exact s_lsw hx hb hok hdg h k
    | _ => cases h0
theorem gex_OK (h : gex M pc len i ls st μ = some (.inl c')) (h1 : gokl ls) (h2 : gokl st) (h3 : gokm μ) : gOK ls c' := by
  cases i with
  | iconst n => exact k_nx (v := gI (Int32.ofInt n).toInt) (gok32 _) h h1 h2 h3
  | bipush n => exact k_nx (v := gI (Int8.ofInt n).toInt32.toInt) (gok32 _) h h1 h2 h3
  | sipush n => exact k_nx (v := gI (Int16.ofInt n).toInt32.toInt) (gok32 _) h h1 h2 h3
  | lconst n => exact k_nx (v := gJ (Int64.ofNat (n : Nat)).toInt) (gok64 _) h h1 h2 h3
  | ldc idx =>
    unfold gex at h
    dsimp only at h
    split at h
    · rename_i v pp hk
      exact k_nx (v := gI (Int32.ofInt v).toInt) (gok32 _) h h1 h2 h3
    · cases h
  | ldc_w idx =>
    unfold gex at h
    dsimp only at h
    split at h
    · rename_i v pp hk
      exact k_nx (v := gI (Int32.ofInt v).toInt) (gok32 _) h h1 h2 h3
    · cases h
  | ldc2_w idx =>
    unfold gex at h
    dsimp only at h
    split at h
    · rename_i v pp hk
      exact k_nx (v := gJ (Int64.ofInt v).toInt) (gok64 _) h h1 h2 h3
    · cases h
  | iload_n q => exact k_push (k_ldi h1) h h1 h2 h3
  | iload q => exact k_push (k_ldi h1) h h1 h2 h3
  | lload_n q => exact k_push (k_ldl h1) h h1 h2 h3
  | lload q => exact k_push (k_ldl h1) h h1 h2 h3
  | aload_n q => exact k_push (k_lda h1) h h1 h2 h3
  | aload q => exact k_push (k_lda h1) h h1 h2 h3
  | istore_n q => exact k_sti h h1 h2 h3
  | istore q => exact k_sti h h1 h2 h3
  | lstore_n q => exact k_stl h h1 h2 h3
  | lstore q => exact k_stl h h1 h2 h3
  | astore_n q => exact k_sta h h1 h2 h3
  | astore q => exact k_sta h h1 h2 h3
  | iinc q n => exact k_inc h h1 h2 h3
  | iadd => exact k_stk (k_i2 h2) h h1 h3
  | isub => exact k_stk (k_i2 h2) h h1 h3
  | imul => exact k_stk (k_i2 h2) h h1 h3
  | iand => exact k_stk (k_i2 h2) h h1 h3
  | ior => exact k_stk (k_i2 h2) h h1 h3
  | ixor => exact k_stk (k_i2 h2) h h1 h3
  | ishl => exact k_stk (k_i2 h2) h h1 h3
  | ishr => exact k_stk (k_i2 h2) h h1 h3
  | iushr => exact k_stk (k_i2 h2) h h1 h3
  | idiv => exact k_stk (k_i2n h2) h h1 h3
  | irem => exact k_stk (k_i2n h2) h h1 h3
  | ladd => exact k_stk (k_l2 h2) h h1 h3
  | lmul => exact k_stk (k_l2 h2) h h1 h3
  | land => exact k_stk (k_l2 h2) h h1 h3
  | lor => exact k_stk (k_l2 h2) h h1 h3
  | lxor => exact k_stk (k_l2 h2) h h1 h3
  | ldiv => exact k_stk (k_l2n h2) h h1 h3
  | lrem => exact k_stk (k_l2n h2) h h1 h3
  | lshl => exact k_stk (k_lsh h2) h h1 h3
  | lcmp => exact k_stk (k_lcmp h2) h h1 h3
  | i2l => exact k_stk (k_i2l h2) h h1 h3
  | l2i => exact k_stk (k_l2i h2) h h1 h3
  | dup => exact k_stk (k_dup h2) h h1 h3
  | dup2 => exact k_stk (k_dup2 h2) h h1 h3
  | pop => exact k_stk (k_pop h2) h h1 h3
  | goto off => exact k_goto h h1 h2 h3
  | ifCond cd off => exact k_if h h1 h2 h3
  | if_icmp cd off => exact k_if2 h h1 h2 h3
  | tableswitch d lo hi offs => exact k_tsw h h1 h2 h3
  | lookupswitch d ps => exact k_lsw h h1 h2 h3
  | getfield idx => exact k_get h h1 h2 h3
  | putfield idx => exact k_put h h1 h2 h3
  | iaload => exact k_iald h h1 h2 h3
  | iastore => exact k_iast h h1 h2 h3
  | laload => exact k_lald h h1 h2 h3
  | lastore => exact k_last h h1 h2 h3
  | arraylength => exact k_alen h h1 h2 h3
  | invokevirtual idx => exact absurd h (fun q => g_call_next q)
  | invokestatic idx =>
    unfold gex at h
    dsimp only at h
    split at h
    · exact k_math h h1 h2 h3
    · exact absurd h (fun q => g_call_next q)
  | ireturn => exact absurd h (fun q => g_ret_next q)
  | lreturn => exact absurd h (fun q => g_lret_next q)
  | return_ => exact absurd h (fun q => g_vret_next q)
  | _ => exact nomatch (show (none : gN) = some (.inl c') from h)
end GSTEP
