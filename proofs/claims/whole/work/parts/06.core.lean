/-! a small machine over whole numbers: values, memory by places, one step, runs -/
abbrev gv : Type := Option (Int ⊕ (Int ⊕ ((Nat × Nat) ⊕ ((Nat × Nat) ⊕ (Nat × Nat)))))
/-- an int, a long, an object of a kind at a place, an int array of a length at a place, a long array likewise, nothing -/
def gI (a : Int) : gv := some (.inl a)
def gJ (a : Int) : gv := some (.inr (.inl a))
def gO (c k : Nat) : gv := some (.inr (.inr (.inl (c, k))))
def gA (n k : Nat) : gv := some (.inr (.inr (.inr (.inl (n, k)))))
def gB (n k : Nat) : gv := some (.inr (.inr (.inr (.inr (n, k)))))
def gX : gv := none
abbrev gM : Type := Nat → Int → Int
def gS (μ : gM) (k : Nat) (i v : Int) : gM := fun a b => if a = k ∧ b = i then v else μ a b
abbrev gF : Type := Nat × List gv × List gv × gM
abbrev gN : Type := Option (gF ⊕ ((Nat × List gv × gF) ⊕ Int))
def g_len (i : Instr) : Nat := match i with
  | .bipush _ | .iload _ | .lload _ | .aload _ | .istore _ | .lstore _ | .astore _ | .ldc _ => 2
  | .sipush _ | .iinc _ _ | .ldc_w _ | .ldc2_w _ | .getfield _ | .putfield _ | .invokevirtual _ | .invokestatic _ | .goto _ | .ifCond _ _ | .if_icmp _ _ => 3
  | .tableswitch _ _ _ _ | .lookupswitch _ _ => 0
  | _ => 1
def g_nx (pc : Nat) (ls st : List gv) (μ : gM) : gN := some (.inl (pc, ls, st, μ))
def g_i2 (f : Int32 → Int32 → Int32) (st : List gv) : Option (List gv) := match st with
  | some (.inl b) :: some (.inl a) :: r => some (gI (f (Int32.ofInt a) (Int32.ofInt b)).toInt :: r)
  | _ => none
/-- the second isn't 0 -/
def g_i2n (f : Int32 → Int32 → Int32) (st : List gv) : Option (List gv) := match st with
  | some (.inl b) :: some (.inl a) :: r => if b = 0 then none else some (gI (f (Int32.ofInt a) (Int32.ofInt b)).toInt :: r)
  | _ => none
def g_l2 (f : Int64 → Int64 → Int64) (st : List gv) : Option (List gv) := match st with
  | some (.inr (.inl b)) :: some (.inr (.inl a)) :: r => some (gJ (f (Int64.ofInt a) (Int64.ofInt b)).toInt :: r)
  | _ => none
def g_l2n (f : Int64 → Int64 → Int64) (st : List gv) : Option (List gv) := match st with
  | some (.inr (.inl b)) :: some (.inr (.inl a)) :: r => if b = 0 then none else some (gJ (f (Int64.ofInt a) (Int64.ofInt b)).toInt :: r)
  | _ => none
def g_lsh (f : Int64 → Int32 → Int64) (st : List gv) : Option (List gv) := match st with
  | some (.inl b) :: some (.inr (.inl a)) :: r => some (gJ (f (Int64.ofInt a) (Int32.ofInt b)).toInt :: r)
  | _ => none
def g_lcmp (st : List gv) : Option (List gv) := match st with
  | some (.inr (.inl b)) :: some (.inr (.inl a)) :: r => some (gI (if b < a then 1 else if a = b then 0 else -1) :: r)
  | _ => none
def g_i2l (st : List gv) : Option (List gv) := match st with
  | some (.inl a) :: r => some (gJ a :: r)
  | _ => none
def g_l2i (st : List gv) : Option (List gv) := match st with
  | some (.inr (.inl a)) :: r => some (gI (Int64.ofInt a).toInt32.toInt :: r)
  | _ => none
def g_small (v : gv) : Bool := match v with
  | some (.inr (.inl _)) => false
  | none => false
  | _ => true
def g_dup (st : List gv) : Option (List gv) := match st with
  | v :: r => if g_small v = true then some (v :: v :: r) else none
  | _ => none
def g_dup2 (st : List gv) : Option (List gv) := match st with
  | v :: w :: r => if g_small v = true then if g_small w = true then some (v :: w :: v :: w :: r) else none else none
  | _ => none
def g_pop (st : List gv) : Option (List gv) := match st with
  | v :: r => if g_small v = true then some r else none
  | _ => none
def g_ldi (ls : List gv) (i : Nat) : Option gv := match ls[i]? with
  | some (some (.inl a)) => some (gI a)
  | _ => none
def g_ldl (ls : List gv) (i : Nat) : Option gv := match ls[i]?, ls[i + 1]? with
  | some (some (.inr (.inl a))), some none => some (gJ a)
  | _, _ => none
def g_lda (ls : List gv) (i : Nat) : Option gv := match ls[i]? with
  | some (some (.inr (.inr r))) => some (some (.inr (.inr r)))
  | _ => none
def g_push (pc : Nat) (ls st : List gv) (μ : gM) (o : Option gv) : gN := match o with
  | some v => g_nx pc ls (v :: st) μ
  | none => none
def g_stk (pc : Nat) (ls : List gv) (μ : gM) (o : Option (List gv)) : gN := match o with
  | some st => g_nx pc ls st μ
  | none => none
def g_sti (pc : Nat) (ls st : List gv) (μ : gM) (i : Nat) : gN := match st with
  | some (.inl a) :: r => if i < ls.length then g_nx pc (ls.set i (gI a)) r μ else none
  | _ => none
def g_stl (pc : Nat) (ls st : List gv) (μ : gM) (i : Nat) : gN := match st with
  | some (.inr (.inl a)) :: r => if i + 1 < ls.length then g_nx pc ((ls.set i (gJ a)).set (i + 1) gX) r μ else none
  | _ => none
def g_sta (pc : Nat) (ls st : List gv) (μ : gM) (i : Nat) : gN := match st with
  | some (.inr (.inr q)) :: r => if i < ls.length then g_nx pc (ls.set i (some (.inr (.inr q)))) r μ else none
  | _ => none
def g_inc (pc : Nat) (ls st : List gv) (μ : gM) (i : Nat) (n : Int) : gN := match ls[i]? with
  | some (some (.inl a)) => g_nx pc (ls.set i (gI (Int32.ofInt a + Int32.ofInt n).toInt)) st μ
  | _ => none
def g_to (pc : Nat) (off : Int) (ls st : List gv) (μ : gM) : gN := if 0 ≤ (pc : Int) + off then g_nx ((pc : Int) + off).toNat ls st μ else none
def g_cmp (c : ClassFile.Cond) (a b : Int) : Bool := match c with
  | .eq => decide (a = b)
  | .ne => decide (a ≠ b)
  | .lt => decide (a < b)
  | .ge => decide (b ≤ a)
  | .gt => decide (b < a)
  | .le => decide (a ≤ b)
def g_if (pc : Nat) (c : ClassFile.Cond) (off : Int) (ls st : List gv) (μ : gM) : gN := match st with
  | some (.inl a) :: r => if 0 ≤ (pc : Int) + off then if g_cmp c a 0 = true then g_nx ((pc : Int) + off).toNat ls r μ else g_nx (pc + 3) ls r μ else none
  | _ => none
def g_if2 (pc : Nat) (c : ClassFile.Cond) (off : Int) (ls st : List gv) (μ : gM) : gN := match st with
  | some (.inl b) :: some (.inl a) :: r => if 0 ≤ (pc : Int) + off then if g_cmp c a b = true then g_nx ((pc : Int) + off).toNat ls r μ else g_nx (pc + 3) ls r μ else none
  | _ => none
def g_tsw (pc : Nat) (d lo hi : Int) (offs : Array Int) (ls st : List gv) (μ : gM) : gN := match st with
  | some (.inl a) :: r => if a < lo ∨ hi < a then g_to pc d ls r μ else match offs[(a - lo).toNat]? with
    | some off => g_to pc off ls r μ
    | none => none
  | _ => none
def g_lsw (pc : Nat) (d : Int) (ps : Array (Int × Int)) (ls st : List gv) (μ : gM) : gN := match st with
  | some (.inl a) :: r => if (ps.toList.zip (ps.toList.drop 1)).all (fun (a, next) => a.1 < next.1) = true then g_to pc (Op.lookupswitch.offset ps.toList d a) ls r μ else none
  | _ => none
/-- what stands in field j of an object of a kind at place k -/
def g_fv (μ : gM) (ci k j : Nat) : Option gv := match gfd ci j with
  | some (0, _, _) => some (gI (μ k j))
  | some (1, _, _) => some (gI (μ k j))
  | some (2, _, _) => some (gJ (μ k j))
  | some (3, o, x) => some (gO x (k + o))
  | some (4, o, x) => some (gA x (k + o))
  | some (5, o, x) => some (gB x (k + o))
  | _ => none
def g_get (o pc idx : Nat) (ls st : List gv) (μ : gM) : gN := match gfl o idx, st with
  | some (ci, j, _, _), some (.inr (.inr (.inl (c, k)))) :: r => if c = ci then g_push pc ls r μ (g_fv μ ci k j) else none
  | _, _ => none
def g_put (o pc idx : Nat) (ls st : List gv) (μ : gM) : gN := match gfl o idx with
  | some (ci, j, _, _) => match gfd ci j, st with
    | some (0, _, _), some (.inl a) :: some (.inr (.inr (.inl (c, k)))) :: r => if c = ci then g_nx pc ls r (gS μ k j a) else none
    | some (1, _, _), some (.inl a) :: some (.inr (.inr (.inl (c, k)))) :: r => if c = ci then if a = 0 ∨ a = 1 then g_nx pc ls r (gS μ k j a) else none else none
    | some (2, _, _), some (.inr (.inl a)) :: some (.inr (.inr (.inl (c, k)))) :: r => if c = ci then g_nx pc ls r (gS μ k j a) else none
    | _, _ => none
  | none => none
def g_iald (pc : Nat) (ls st : List gv) (μ : gM) : gN := match st with
  | some (.inl i) :: some (.inr (.inr (.inr (.inl (n, k))))) :: r => if 0 ≤ i ∧ i < n then g_nx pc ls (gI (μ k i) :: r) μ else none
  | _ => none
def g_iast (pc : Nat) (ls st : List gv) (μ : gM) : gN := match st with
  | some (.inl v) :: some (.inl i) :: some (.inr (.inr (.inr (.inl (n, k))))) :: r => if 0 ≤ i ∧ i < n then g_nx pc ls r (gS μ k i v) else none
  | _ => none
def g_lald (pc : Nat) (ls st : List gv) (μ : gM) : gN := match st with
  | some (.inl i) :: some (.inr (.inr (.inr (.inr (n, k))))) :: r => if 0 ≤ i ∧ i < n then g_nx pc ls (gJ (μ k i) :: r) μ else none
  | _ => none
def g_last (pc : Nat) (ls st : List gv) (μ : gM) : gN := match st with
  | some (.inr (.inl v)) :: some (.inl i) :: some (.inr (.inr (.inr (.inr (n, k))))) :: r => if 0 ≤ i ∧ i < n then g_nx pc ls r (gS μ k i v) else none
  | _ => none
def g_alen (pc : Nat) (ls st : List gv) (μ : gM) : gN := match st with
  | some (.inr (.inr (.inr (.inl (n, _))))) :: r => g_nx pc ls (gI n :: r) μ
  | some (.inr (.inr (.inr (.inr (n, _))))) :: r => g_nx pc ls (gI n :: r) μ
  | _ => none
def g_cat (v : gv) : Nat := match v with
  | some (.inr (.inl _)) => 2
  | _ => 1
def g_fit (M M' : Nat) : Bool := decide (mF M' + 1 ≤ mF M) && decide (8 + (mL M' + 11) + mZ M' ≤ mZ M)
/-- longs stand before an empty place -/
def g_exp : List gv → List gv
  | [] => []
  | some (.inr (.inl a)) :: r => some (.inr (.inl a)) :: none :: g_exp r
  | v :: r => v :: g_exp r
/-- the first argument is an object of the method's own kind -/
def g_rcv (M' : Nat) (as : List gv) : Bool := match as with
  | some (.inr (.inr (.inl (c, _)))) :: _ => decide (c = mO M')
  | _ => false
/-- a call: the arguments, what stands below them -/
def g_call (M pc idx : Nat) (stat : Bool) (ls st : List gv) (μ : gM) : gN := match gml (mO M) idx with
  | some (M', s, _, _, _) =>
    if (stat = true ↔ 2 ≤ s) ∧ g_fit M M' = true then
      let n := if stat = true then g_np M' else g_np M' + 1
      if n ≤ st.length ∧ ((st.drop n).map g_cat).sum ≤ 8 ∧ (g_exp (st.take n).reverse).length ≤ mL M' ∧ (stat = true ∨ g_rcv M' (st.take n).reverse = true) then some (.inr (.inl (M', (st.take n).reverse, pc + 3, ls, st.drop n, μ))) else none
    else none
  | none => none
/-- Math.min (0), Math.max (1) -/
def g_math (M pc w : Nat) (ls st : List gv) (μ : gM) : gN := match st with
  | some (.inl b) :: some (.inl a) :: r => if 1 ≤ mF M ∧ 21 ≤ mZ M ∧ (r.map g_cat).sum ≤ 8 then g_nx (pc + 3) ls (gI (if w = 0 then (if b < a then b else a) else (if a < b then b else a)) :: r) μ else none
  | _ => none
def g_ret (M : Nat) (st : List gv) : gN := match st, gret (mT M) with
  | [some (.inl a)], 1 => some (.inr (.inr a))
  | [some (.inl a)], 2 => if a = 0 ∨ a = 1 then some (.inr (.inr a)) else none
  | _, _ => none
def g_lret (M : Nat) (st : List gv) : gN := match st, gret (mT M) with
  | [some (.inr (.inl a))], 3 => some (.inr (.inr a))
  | _, _ => none
def g_vret (M : Nat) (st : List gv) : gN := match st, gret (mT M) with
  | [], 0 => some (.inr (.inr 0))
  | _, _ => none
def gex (M pc len : Nat) (i : Instr) (ls st : List gv) (μ : gM) : gN := match i with
  | .iconst n => g_nx (pc + 1) ls (gI (Int32.ofInt n).toInt :: st) μ
  | .bipush n => g_nx (pc + 2) ls (gI (Int8.ofInt n).toInt32.toInt :: st) μ
  | .sipush n => g_nx (pc + 3) ls (gI (Int16.ofInt n).toInt32.toInt :: st) μ
  | .lconst n => g_nx (pc + 1) ls (gJ (Int64.ofNat (n : Nat)).toInt :: st) μ
  | .ldc idx => match gkc (mO M) idx with
    | some (v, _) => g_nx (pc + 2) ls (gI (Int32.ofInt v).toInt :: st) μ
    | none => none
  | .ldc_w idx => match gkc (mO M) idx with
    | some (v, _) => g_nx (pc + 3) ls (gI (Int32.ofInt v).toInt :: st) μ
    | none => none
  | .ldc2_w idx => match gkl (mO M) idx with
    | some (v, _) => g_nx (pc + 3) ls (gJ (Int64.ofInt v).toInt :: st) μ
    | none => none
  | .iload_n k => g_push (pc + 1) ls st μ (g_ldi ls k)
  | .iload k => g_push (pc + 2) ls st μ (g_ldi ls k)
  | .lload_n k => g_push (pc + 1) ls st μ (g_ldl ls k)
  | .lload k => g_push (pc + 2) ls st μ (g_ldl ls k)
  | .aload_n k => g_push (pc + 1) ls st μ (g_lda ls k)
  | .aload k => g_push (pc + 2) ls st μ (g_lda ls k)
  | .istore_n k => g_sti (pc + 1) ls st μ k
  | .istore k => g_sti (pc + 2) ls st μ k
  | .lstore_n k => g_stl (pc + 1) ls st μ k
  | .lstore k => g_stl (pc + 2) ls st μ k
  | .astore_n k => g_sta (pc + 1) ls st μ k
  | .astore k => g_sta (pc + 2) ls st μ k
  | .iinc k n => g_inc (pc + 3) ls st μ k n
  | .iadd => g_stk (pc + 1) ls μ (g_i2 (fun x y => x + y) st)
  | .isub => g_stk (pc + 1) ls μ (g_i2 (fun x y => x - y) st)
  | .imul => g_stk (pc + 1) ls μ (g_i2 (fun x y => x * y) st)
  | .iand => g_stk (pc + 1) ls μ (g_i2 (fun x y => x &&& y) st)
  | .ior => g_stk (pc + 1) ls μ (g_i2 (fun x y => x ||| y) st)
  | .ixor => g_stk (pc + 1) ls μ (g_i2 (fun x y => x ^^^ y) st)
  | .ishl => g_stk (pc + 1) ls μ (g_i2 (fun x y => x <<< (y &&& 31)) st)
  | .ishr => g_stk (pc + 1) ls μ (g_i2 (fun x y => x >>> (y &&& 31)) st)
  | .iushr => g_stk (pc + 1) ls μ (g_i2 (fun x y => (x.toUInt32 >>> (y.toUInt32 &&& Int32.toUInt32 31)).toInt32) st)
  | .idiv => g_stk (pc + 1) ls μ (g_i2n (fun x y => x / y) st)
  | .irem => g_stk (pc + 1) ls μ (g_i2n (fun x y => x - x / y * y) st)
  | .ladd => g_stk (pc + 1) ls μ (g_l2 (fun x y => x + y) st)
  | .lmul => g_stk (pc + 1) ls μ (g_l2 (fun x y => x * y) st)
  | .land => g_stk (pc + 1) ls μ (g_l2 (fun x y => x &&& y) st)
  | .lor => g_stk (pc + 1) ls μ (g_l2 (fun x y => x ||| y) st)
  | .lxor => g_stk (pc + 1) ls μ (g_l2 (fun x y => x ^^^ y) st)
  | .ldiv => g_stk (pc + 1) ls μ (g_l2n (fun x y => x / y) st)
  | .lrem => g_stk (pc + 1) ls μ (g_l2n (fun x y => x - x / y * y) st)
  | .lshl => g_stk (pc + 1) ls μ (g_lsh (fun x y => x <<< (y.toInt64 &&& 63)) st)
  | .lcmp => g_stk (pc + 1) ls μ (g_lcmp st)
  | .i2l => g_stk (pc + 1) ls μ (g_i2l st)
  | .l2i => g_stk (pc + 1) ls μ (g_l2i st)
  | .dup => g_stk (pc + 1) ls μ (g_dup st)
  | .dup2 => g_stk (pc + 1) ls μ (g_dup2 st)
  | .pop => g_stk (pc + 1) ls μ (g_pop st)
  | .goto off => g_to pc off ls st μ
  | .ifCond c off => g_if pc c off ls st μ
  | .if_icmp c off => g_if2 pc c off ls st μ
  | .tableswitch d lo hi offs => g_tsw pc d lo hi offs ls st μ
  | .lookupswitch d ps => g_lsw pc d ps ls st μ
  | .getfield idx => g_get (mO M) (pc + 3) idx ls st μ
  | .putfield idx => g_put (mO M) (pc + 3) idx ls st μ
  | .iaload => g_iald (pc + 1) ls st μ
  | .iastore => g_iast (pc + 1) ls st μ
  | .laload => g_lald (pc + 1) ls st μ
  | .lastore => g_last (pc + 1) ls st μ
  | .arraylength => g_alen (pc + 1) ls st μ
  | .invokevirtual idx => g_call M pc idx false ls st μ
  | .invokestatic idx => match gmx (mO M) idx with
    | some (w, _) => g_math M pc w ls st μ
    | none => g_call M pc idx true ls st μ
  | .ireturn => g_ret M st
  | .lreturn => g_lret M st
  | .return_ => g_vret M st
  | _ => none
def gstep (M : Nat) (c : gF) : gN := match decode (mB M) c.1 with
  | .ok (i, len) => if g_len i = len ∨ g_len i = 0 then gex M c.1 len i c.2.1 c.2.2.1 c.2.2.2 else none
  | .error _ => none
def g_ent (M : Nat) (as : List gv) : List gv := g_exp as ++ List.replicate (mL M - (g_exp as).length) gX
def g_back (M' : Nat) (r : Int) (st : List gv) : List gv := match gret (mT M') with
  | 0 => st
  | 3 => gJ r :: st
  | _ => gI r :: st
def grun : Nat → Nat → gF → Option (Int × gM)
  | 0, _, _ => none
  | n + 1, M, c => match gstep M c with
    | none => none
    | some (.inl c') => grun n M c'
    | some (.inr (.inr r)) => some (r, c.2.2.2)
    | some (.inr (.inl (M', as, pc, ls, st, μ))) => match grun n M' (0, g_ent M' as, [], μ) with
      | none => none
      | some (r, μ') => grun n M (pc, ls, g_back M' r st, μ')
/-- it comes to an end with Q -/
def gE (M pc : Nat) (ls st : List gv) (μ : gM) (Q : Int → gM → Prop) : Prop := ∃ (n : Nat) (r : Int) (μ' : gM), grun n M (pc, ls, st, μ) = some (r, μ') ∧ Q r μ'
theorem grun_up : ∀ (n : Nat) (M : Nat) (c : gF) (x : Int × gM), grun n M c = some x → grun (n + 1) M c = some x := by
  intro n
  induction n with
  | zero => intro M c x h; cases h
  | succ n ih =>
    intro M c x h
    rw [grun] at h ⊢
    cases hs : gstep M c with
    | none => rw [hs] at h; cases h
    | some y =>
      rw [hs] at h
      rcases y with c' | ⟨M', as, pc, ls, st, μ⟩ | r
      · exact ih _ _ _ h
      · dsimp only at h ⊢
        cases h1 : grun n M' (0, g_ent M' as, [], μ) with
        | none => rw [h1] at h; cases h
        | some z =>
          rw [h1] at h
          rw [ih _ _ _ h1]
          exact ih _ _ _ h
      · exact h
theorem grun_le {n k : Nat} (hk : n ≤ k) {M : Nat} {c : gF} {x : Int × gM} (h : grun n M c = some x) : grun k M c = some x := by
  induction hk with
  | refl => exact h
  | step _ ih => exact grun_up _ _ _ _ ih
theorem gE_next {M pc : Nat} {ls st : List gv} {μ : gM} {pc' : Nat} {ls' st' : List gv} {μ' : gM} (h : gstep M (pc, ls, st, μ) = some (.inl (pc', ls', st', μ'))) (Q : Int → gM → Prop) : gE M pc ls st μ Q ↔ gE M pc' ls' st' μ' Q := by
  constructor
  · rintro ⟨n, r, m, h1, h2⟩
    cases n with
    | zero => cases h1
    | succ n =>
      rw [grun, h] at h1
      exact ⟨n, r, m, h1, h2⟩
  · rintro ⟨n, r, m, h1, h2⟩
    exact ⟨n + 1, r, m, by rw [grun, h]; exact h1, h2⟩
theorem gE_ret {M pc : Nat} {ls st : List gv} {μ : gM} {r : Int} (h : gstep M (pc, ls, st, μ) = some (.inr (.inr r))) (Q : Int → gM → Prop) : gE M pc ls st μ Q ↔ Q r μ := by
  constructor
  · rintro ⟨n, r', m, h1, h2⟩
    cases n with
    | zero => cases h1
    | succ n =>
      rw [grun, h] at h1
      cases h1
      exact h2
  · intro hq
    exact ⟨1, r, μ, by rw [grun, h], hq⟩
theorem gE_call {M pc : Nat} {ls st : List gv} {μ : gM} {M' : Nat} {as : List gv} {pc' : Nat} {ls' st' : List gv} {μ' : gM} (h : gstep M (pc, ls, st, μ) = some (.inr (.inl (M', as, pc', ls', st', μ')))) (Q : Int → gM → Prop) :
    gE M pc ls st μ Q ↔ gE M' 0 (g_ent M' as) [] μ' (fun r m => gE M pc' ls' (g_back M' r st') m Q) := by
  constructor
  · rintro ⟨n, r, m, h1, h2⟩
    cases n with
    | zero => cases h1
    | succ n =>
      rw [grun, h] at h1
      dsimp only at h1
      cases h3 : grun n M' (0, g_ent M' as, [], μ') with
      | none => rw [h3] at h1; cases h1
      | some z =>
        rw [h3] at h1
        exact ⟨n, z.1, z.2, h3, n, r, m, h1, h2⟩
  · rintro ⟨n, r, m, h1, k, r2, m2, h3, h4⟩
    refine ⟨max n k + 1, r2, m2, ?_, h4⟩
    rw [grun, h]
    dsimp only
    rw [grun_le (Nat.le_max_left n k) h1]
    exact grun_le (Nat.le_max_right n k) h3
theorem gE_mono {M pc : Nat} {ls st : List gv} {μ : gM} {Q Q' : Int → gM → Prop} (h : gE M pc ls st μ Q) (hq : ∀ r m, Q r m → Q' r m) : gE M pc ls st μ Q' := by
  obtain ⟨n, r, m, h1, h2⟩ := h
  exact ⟨n, r, m, h1, hq _ _ h2⟩
