/-! the steps as equations, one a sort of instruction -/
def w32 (z : Int) : Int := (Int32.ofInt z).toInt
def iand32 (a b : Int) : Int := (Int32.ofInt a &&& Int32.ofInt b).toInt
def ior32 (a b : Int) : Int := (Int32.ofInt a ||| Int32.ofInt b).toInt
def ixor32 (a b : Int) : Int := (Int32.ofInt a ^^^ Int32.ofInt b).toInt
def ishl32 (a b : Int) : Int := (Int32.ofInt a <<< (Int32.ofInt b &&& 31)).toInt
def ishr32 (a b : Int) : Int := (Int32.ofInt a >>> (Int32.ofInt b &&& 31)).toInt
def iushr32 (a b : Int) : Int := (((Int32.ofInt a).toUInt32 >>> ((Int32.ofInt b).toUInt32 &&& Int32.toUInt32 31)).toInt32).toInt
def idiv32 (a b : Int) : Int := (Int32.ofInt a / Int32.ofInt b).toInt
def irem32 (a b : Int) : Int := (Int32.ofInt a - Int32.ofInt a / Int32.ofInt b * Int32.ofInt b).toInt
def ladd64 (a b : Int) : Int := (Int64.ofInt a + Int64.ofInt b).toInt
def lmul64 (a b : Int) : Int := (Int64.ofInt a * Int64.ofInt b).toInt
def land64 (a b : Int) : Int := (Int64.ofInt a &&& Int64.ofInt b).toInt
def lor64 (a b : Int) : Int := (Int64.ofInt a ||| Int64.ofInt b).toInt
def lxor64 (a b : Int) : Int := (Int64.ofInt a ^^^ Int64.ofInt b).toInt
def ldiv64 (a b : Int) : Int := (Int64.ofInt a / Int64.ofInt b).toInt
def lrem64 (a b : Int) : Int := (Int64.ofInt a - Int64.ofInt a / Int64.ofInt b * Int64.ofInt b).toInt
def lshl64 (a b : Int) : Int := (Int64.ofInt a <<< ((Int32.ofInt b).toInt64 &&& 63)).toInt
def lcmp64 (a b : Int) : Int := if b < a then 1 else if a = b then 0 else -1
def l2i32 (a : Int) : Int := (Int64.ofInt a).toInt32.toInt
def imin (a b : Int) : Int := if b < a then b else a
def imax (a b : Int) : Int := if a < b then b else a
/-- what follows a call: of nothing, of an int, of a long -/
def gK0 (M pc : Nat) (ls st : List gv) (Q : Int → gM → Prop) : Int → gM → Prop := fun _ μ => gE M pc ls st μ Q
def gK1 (M pc : Nat) (ls st : List gv) (Q : Int → gM → Prop) : Int → gM → Prop := fun r μ => gE M pc ls (gI r :: st) μ Q
def gK3 (M pc : Nat) (ls st : List gv) (Q : Int → gM → Prop) : Int → gM → Prop := fun r μ => gE M pc ls (gJ r :: st) μ Q
theorem gK0_eq {M pc : Nat} {ls st : List gv} {Q : Int → gM → Prop} {r : Int} {μ : gM} : gK0 M pc ls st Q r μ = gE M pc ls st μ Q := rfl
theorem gK1_eq {M pc : Nat} {ls st : List gv} {Q : Int → gM → Prop} {r : Int} {μ : gM} : gK1 M pc ls st Q r μ = gE M pc ls (gI r :: st) μ Q := rfl
theorem gK3_eq {M pc : Nat} {ls st : List gv} {Q : Int → gM → Prop} {r : Int} {μ : gM} : gK3 M pc ls st Q r μ = gE M pc ls (gJ r :: st) μ Q := rfl
section QEQ
variable {M pc pc' len : Nat} {bytes : ByteArray} {i : Instr} {ls ls' st st' : List gv} {μ μ' : gM} {Q : Int → gM → Prop}
theorem gs_of {y : gN} (hb : mB M = bytes) (hd : decode bytes pc = .ok (i, len)) (hl : g_len i = len ∨ g_len i = 0) (h : gex M pc len i ls st μ = y) : gstep M (pc, ls, st, μ) = y := by
  unfold gstep
  dsimp only
  rw [hb, hd]
  dsimp only
  rw [if_pos hl]
  exact h
theorem q_step (hb : mB M = bytes) (hd : decode bytes pc = .ok (i, len)) (hl : g_len i = len ∨ g_len i = 0) (h : gex M pc len i ls st μ = some (.inl (pc', ls', st', μ'))) : gE M pc ls st μ Q = gE M pc' ls' st' μ' Q := propext (gE_next (gs_of hb hd hl h) Q)
theorem q_iconst {n v : Int} (hb : mB M = bytes) (hd : decode bytes pc = .ok (.iconst n, 1)) (hv : (Int32.ofInt n).toInt = v) (hp : pc + 1 = pc') : gE M pc ls st μ Q = gE M pc' ls (gI v :: st) μ Q := by
  subst hp; subst hv
  exact q_step hb hd (Or.inl rfl) rfl
theorem q_bipush {n v : Int} (hb : mB M = bytes) (hd : decode bytes pc = .ok (.bipush n, 2)) (hv : (Int8.ofInt n).toInt32.toInt = v) (hp : pc + 2 = pc') : gE M pc ls st μ Q = gE M pc' ls (gI v :: st) μ Q := by
  subst hp; subst hv
  exact q_step hb hd (Or.inl rfl) rfl
theorem q_sipush {n v : Int} (hb : mB M = bytes) (hd : decode bytes pc = .ok (.sipush n, 3)) (hv : (Int16.ofInt n).toInt32.toInt = v) (hp : pc + 3 = pc') : gE M pc ls st μ Q = gE M pc' ls (gI v :: st) μ Q := by
  subst hp; subst hv
  exact q_step hb hd (Or.inl rfl) rfl
theorem q_lconst {n : Fin 2} {v : Int} (hb : mB M = bytes) (hd : decode bytes pc = .ok (.lconst n, 1)) (hv : (Int64.ofNat (n : Nat)).toInt = v) (hp : pc + 1 = pc') : gE M pc ls st μ Q = gE M pc' ls (gJ v :: st) μ Q := by
  subst hp; subst hv
  exact q_step hb hd (Or.inl rfl) rfl
theorem q_ldc {o idx p : Nat} {n v : Int} (hb : mB M = bytes) (hd : decode bytes pc = .ok (.ldc idx, 2)) (ho : mO M = o) (hk : gkc o idx = some (n, p)) (hv : (Int32.ofInt n).toInt = v) (hp : pc + 2 = pc') : gE M pc ls st μ Q = gE M pc' ls (gI v :: st) μ Q := by
  subst hp; subst hv; subst ho
  exact q_step hb hd (Or.inl rfl) (by unfold gex; dsimp only; rw [hk]; rfl)
theorem q_ldc_w {o idx p : Nat} {n v : Int} (hb : mB M = bytes) (hd : decode bytes pc = .ok (.ldc_w idx, 3)) (ho : mO M = o) (hk : gkc o idx = some (n, p)) (hv : (Int32.ofInt n).toInt = v) (hp : pc + 3 = pc') : gE M pc ls st μ Q = gE M pc' ls (gI v :: st) μ Q := by
  subst hp; subst hv; subst ho
  exact q_step hb hd (Or.inl rfl) (by unfold gex; dsimp only; rw [hk]; rfl)
theorem q_ldc2_w {o idx p : Nat} {n v : Int} (hb : mB M = bytes) (hd : decode bytes pc = .ok (.ldc2_w idx, 3)) (ho : mO M = o) (hk : gkl o idx = some (n, p)) (hv : (Int64.ofInt n).toInt = v) (hp : pc + 3 = pc') : gE M pc ls st μ Q = gE M pc' ls (gJ v :: st) μ Q := by
  subst hp; subst hv; subst ho
  exact q_step hb hd (Or.inl rfl) (by unfold gex; dsimp only; rw [hk]; rfl)
theorem q_iload_n {k : Fin 4} {x : Int} (hb : mB M = bytes) (hd : decode bytes pc = .ok (.iload_n k, 1)) (h : ls[(k : Nat)]? = some (gI x)) (hp : pc + 1 = pc') : gE M pc ls st μ Q = gE M pc' ls (gI x :: st) μ Q := by
  subst hp
  exact q_step hb hd (Or.inl rfl) (by unfold gex; dsimp only; unfold g_ldi; rw [h]; rfl)
theorem q_iload {k : Nat} {x : Int} (hb : mB M = bytes) (hd : decode bytes pc = .ok (.iload k, 2)) (h : ls[k]? = some (gI x)) (hp : pc + 2 = pc') : gE M pc ls st μ Q = gE M pc' ls (gI x :: st) μ Q := by
  subst hp
  exact q_step hb hd (Or.inl rfl) (by unfold gex; dsimp only; unfold g_ldi; rw [h]; rfl)
theorem q_lload_n {k : Fin 4} {x : Int} (hb : mB M = bytes) (hd : decode bytes pc = .ok (.lload_n k, 1)) (h : ls[(k : Nat)]? = some (gJ x)) (hp : pc + 1 = pc') (h2 : ls[(k : Nat) + 1]? = some gX) : gE M pc ls st μ Q = gE M pc' ls (gJ x :: st) μ Q := by
  subst hp
  exact q_step hb hd (Or.inl rfl) (by unfold gex; dsimp only; unfold g_ldl; rw [h, h2]; rfl)
theorem q_lload {k : Nat} {x : Int} (hb : mB M = bytes) (hd : decode bytes pc = .ok (.lload k, 2)) (h : ls[k]? = some (gJ x)) (hp : pc + 2 = pc') (h2 : ls[k + 1]? = some gX) : gE M pc ls st μ Q = gE M pc' ls (gJ x :: st) μ Q := by
  subst hp
  exact q_step hb hd (Or.inl rfl) (by unfold gex; dsimp only; unfold g_ldl; rw [h, h2]; rfl)
theorem q_aloadR {k : Fin 4} {r : (Nat × Nat) ⊕ ((Nat × Nat) ⊕ (Nat × Nat))} (hb : mB M = bytes) (hd : decode bytes pc = .ok (.aload_n k, 1)) (h : ls[(k : Nat)]? = some (some (.inr (.inr r)))) (hp : pc + 1 = pc') : gE M pc ls st μ Q = gE M pc' ls (some (.inr (.inr r)) :: st) μ Q := by
  subst hp
  exact q_step hb hd (Or.inl rfl) (by unfold gex; dsimp only; unfold g_lda; rw [h]; rfl)
theorem q_aloadW {k : Nat} {r : (Nat × Nat) ⊕ ((Nat × Nat) ⊕ (Nat × Nat))} (hb : mB M = bytes) (hd : decode bytes pc = .ok (.aload k, 2)) (h : ls[k]? = some (some (.inr (.inr r)))) (hp : pc + 2 = pc') : gE M pc ls st μ Q = gE M pc' ls (some (.inr (.inr r)) :: st) μ Q := by
  subst hp
  exact q_step hb hd (Or.inl rfl) (by unfold gex; dsimp only; unfold g_lda; rw [h]; rfl)
theorem q_aloadO_n {k : Fin 4} {ci x : Nat} (hb : mB M = bytes) (hd : decode bytes pc = .ok (.aload_n k, 1)) (h : ls[(k : Nat)]? = some (gO ci x)) (hp : pc + 1 = pc') : gE M pc ls st μ Q = gE M pc' ls (gO ci x :: st) μ Q := q_aloadR hb hd h hp
theorem q_aloadA_n {k : Fin 4} {n x : Nat} (hb : mB M = bytes) (hd : decode bytes pc = .ok (.aload_n k, 1)) (h : ls[(k : Nat)]? = some (gA n x)) (hp : pc + 1 = pc') : gE M pc ls st μ Q = gE M pc' ls (gA n x :: st) μ Q := q_aloadR hb hd h hp
theorem q_aloadB_n {k : Fin 4} {n x : Nat} (hb : mB M = bytes) (hd : decode bytes pc = .ok (.aload_n k, 1)) (h : ls[(k : Nat)]? = some (gB n x)) (hp : pc + 1 = pc') : gE M pc ls st μ Q = gE M pc' ls (gB n x :: st) μ Q := q_aloadR hb hd h hp
theorem q_aloadA {k : Nat} {n x : Nat} (hb : mB M = bytes) (hd : decode bytes pc = .ok (.aload k, 2)) (h : ls[k]? = some (gA n x)) (hp : pc + 2 = pc') : gE M pc ls st μ Q = gE M pc' ls (gA n x :: st) μ Q := q_aloadW hb hd h hp
theorem q_aloadO {k : Nat} {n x : Nat} (hb : mB M = bytes) (hd : decode bytes pc = .ok (.aload k, 2)) (h : ls[k]? = some (gO n x)) (hp : pc + 2 = pc') : gE M pc ls st μ Q = gE M pc' ls (gO n x :: st) μ Q := q_aloadW hb hd h hp
theorem q_istore_n {k : Fin 4} {x : Int} (hb : mB M = bytes) (hd : decode bytes pc = .ok (.istore_n k, 1)) (h : ls.set (k : Nat) (gI x) = ls') (hp : pc + 1 = pc') (hl : Nat.ble ((k : Nat) + 1) ls.length = true) : gE M pc ls (gI x :: st) μ Q = gE M pc' ls' st μ Q := by
  subst hp; subst h
  exact q_step hb hd (Or.inl rfl) (by unfold gex; dsimp only; unfold g_sti gI; dsimp only; rw [if_pos (Nat.lt_of_succ_le (Nat.le_of_ble_eq_true hl))]; rfl)
theorem q_istore {k : Nat} {x : Int} (hb : mB M = bytes) (hd : decode bytes pc = .ok (.istore k, 2)) (h : ls.set k (gI x) = ls') (hp : pc + 2 = pc') (hl : Nat.ble (k + 1) ls.length = true) : gE M pc ls (gI x :: st) μ Q = gE M pc' ls' st μ Q := by
  subst hp; subst h
  exact q_step hb hd (Or.inl rfl) (by unfold gex; dsimp only; unfold g_sti gI; dsimp only; rw [if_pos (Nat.lt_of_succ_le (Nat.le_of_ble_eq_true hl))]; rfl)
theorem q_lstore_n {k : Fin 4} {x : Int} (hb : mB M = bytes) (hd : decode bytes pc = .ok (.lstore_n k, 1)) (h : (ls.set (k : Nat) (gJ x)).set ((k : Nat) + 1) gX = ls') (hp : pc + 1 = pc') (hl : Nat.ble ((k : Nat) + 1 + 1) ls.length = true) : gE M pc ls (gJ x :: st) μ Q = gE M pc' ls' st μ Q := by
  subst hp; subst h
  exact q_step hb hd (Or.inl rfl) (by unfold gex; dsimp only; unfold g_stl gJ; dsimp only; rw [if_pos (Nat.lt_of_succ_le (Nat.le_of_ble_eq_true hl))]; rfl)
theorem q_lstore {k : Nat} {x : Int} (hb : mB M = bytes) (hd : decode bytes pc = .ok (.lstore k, 2)) (h : (ls.set k (gJ x)).set (k + 1) gX = ls') (hp : pc + 2 = pc') (hl : Nat.ble (k + 1 + 1) ls.length = true) : gE M pc ls (gJ x :: st) μ Q = gE M pc' ls' st μ Q := by
  subst hp; subst h
  exact q_step hb hd (Or.inl rfl) (by unfold gex; dsimp only; unfold g_stl gJ; dsimp only; rw [if_pos (Nat.lt_of_succ_le (Nat.le_of_ble_eq_true hl))]; rfl)
theorem q_astoreA {k : Nat} {n x : Nat} (hb : mB M = bytes) (hd : decode bytes pc = .ok (.astore k, 2)) (h : ls.set k (gA n x) = ls') (hp : pc + 2 = pc') (hl : Nat.ble (k + 1) ls.length = true) : gE M pc ls (gA n x :: st) μ Q = gE M pc' ls' st μ Q := by
  subst hp; subst h
  exact q_step hb hd (Or.inl rfl) (by unfold gex; dsimp only; unfold g_sta gA; dsimp only; rw [if_pos (Nat.lt_of_succ_le (Nat.le_of_ble_eq_true hl))]; rfl)
theorem q_astoreA_n {k : Fin 4} {n x : Nat} (hb : mB M = bytes) (hd : decode bytes pc = .ok (.astore_n k, 1)) (h : ls.set (k : Nat) (gA n x) = ls') (hp : pc + 1 = pc') (hl : Nat.ble ((k : Nat) + 1) ls.length = true) : gE M pc ls (gA n x :: st) μ Q = gE M pc' ls' st μ Q := by
  subst hp; subst h
  exact q_step hb hd (Or.inl rfl) (by unfold gex; dsimp only; unfold g_sta gA; dsimp only; rw [if_pos (Nat.lt_of_succ_le (Nat.le_of_ble_eq_true hl))]; rfl)
theorem q_iinc {k : Nat} {n x : Int} (hb : mB M = bytes) (hd : decode bytes pc = .ok (.iinc k n, 3)) (h : ls[k]? = some (gI x)) (hs : ls.set k (gI (w32 (x + n))) = ls') (hp : pc + 3 = pc') : gE M pc ls st μ Q = gE M pc' ls' st μ Q := by
  subst hp; subst hs
  exact q_step hb hd (Or.inl rfl) (by unfold gex; dsimp only; unfold g_inc; rw [h]; unfold w32; rw [Int32.ofInt_add]; rfl)
theorem q_iadd {a b : Int} (hb : mB M = bytes) (hd : decode bytes pc = .ok (.iadd, 1)) (hp : pc + 1 = pc') : gE M pc ls (gI b :: gI a :: st) μ Q = gE M pc' ls (gI (w32 (a + b)) :: st) μ Q := by
  subst hp
  exact q_step hb hd (Or.inl rfl) (by unfold w32; rw [Int32.ofInt_add]; rfl)
theorem q_isub {a b : Int} (hb : mB M = bytes) (hd : decode bytes pc = .ok (.isub, 1)) (hp : pc + 1 = pc') : gE M pc ls (gI b :: gI a :: st) μ Q = gE M pc' ls (gI (w32 (a - b)) :: st) μ Q := by
  subst hp
  exact q_step hb hd (Or.inl rfl) (by unfold w32; rw [Int32.ofInt_sub]; rfl)
theorem q_imul {a b : Int} (hb : mB M = bytes) (hd : decode bytes pc = .ok (.imul, 1)) (hp : pc + 1 = pc') : gE M pc ls (gI b :: gI a :: st) μ Q = gE M pc' ls (gI (w32 (a * b)) :: st) μ Q := by
  subst hp
  exact q_step hb hd (Or.inl rfl) (by unfold w32; rw [Int32.ofInt_mul]; rfl)
theorem q_iand {a b : Int} (hb : mB M = bytes) (hd : decode bytes pc = .ok (.iand, 1)) (hp : pc + 1 = pc') : gE M pc ls (gI b :: gI a :: st) μ Q = gE M pc' ls (gI (iand32 a b) :: st) μ Q := by
  subst hp
  exact q_step hb hd (Or.inl rfl) rfl
theorem q_ior {a b : Int} (hb : mB M = bytes) (hd : decode bytes pc = .ok (.ior, 1)) (hp : pc + 1 = pc') : gE M pc ls (gI b :: gI a :: st) μ Q = gE M pc' ls (gI (ior32 a b) :: st) μ Q := by
  subst hp
  exact q_step hb hd (Or.inl rfl) rfl
theorem q_ixor {a b : Int} (hb : mB M = bytes) (hd : decode bytes pc = .ok (.ixor, 1)) (hp : pc + 1 = pc') : gE M pc ls (gI b :: gI a :: st) μ Q = gE M pc' ls (gI (ixor32 a b) :: st) μ Q := by
  subst hp
  exact q_step hb hd (Or.inl rfl) rfl
theorem q_ishl {a b : Int} (hb : mB M = bytes) (hd : decode bytes pc = .ok (.ishl, 1)) (hp : pc + 1 = pc') : gE M pc ls (gI b :: gI a :: st) μ Q = gE M pc' ls (gI (ishl32 a b) :: st) μ Q := by
  subst hp
  exact q_step hb hd (Or.inl rfl) rfl
theorem q_ishr {a b : Int} (hb : mB M = bytes) (hd : decode bytes pc = .ok (.ishr, 1)) (hp : pc + 1 = pc') : gE M pc ls (gI b :: gI a :: st) μ Q = gE M pc' ls (gI (ishr32 a b) :: st) μ Q := by
  subst hp
  exact q_step hb hd (Or.inl rfl) rfl
theorem q_iushr {a b : Int} (hb : mB M = bytes) (hd : decode bytes pc = .ok (.iushr, 1)) (hp : pc + 1 = pc') : gE M pc ls (gI b :: gI a :: st) μ Q = gE M pc' ls (gI (iushr32 a b) :: st) μ Q := by
  subst hp
  exact q_step hb hd (Or.inl rfl) rfl
theorem q_idiv {a b : Int} (hb : mB M = bytes) (hd : decode bytes pc = .ok (.idiv, 1)) (hp : pc + 1 = pc') (h : b ≠ 0) : gE M pc ls (gI b :: gI a :: st) μ Q = gE M pc' ls (gI (idiv32 a b) :: st) μ Q := by
  subst hp
  exact q_step hb hd (Or.inl rfl) (by unfold gex; dsimp only; unfold g_i2n gI; dsimp only; rw [if_neg h]; rfl)
theorem q_irem {a b : Int} (hb : mB M = bytes) (hd : decode bytes pc = .ok (.irem, 1)) (hp : pc + 1 = pc') (h : b ≠ 0) : gE M pc ls (gI b :: gI a :: st) μ Q = gE M pc' ls (gI (irem32 a b) :: st) μ Q := by
  subst hp
  exact q_step hb hd (Or.inl rfl) (by unfold gex; dsimp only; unfold g_i2n gI; dsimp only; rw [if_neg h]; rfl)
theorem q_ladd {a b : Int} (hb : mB M = bytes) (hd : decode bytes pc = .ok (.ladd, 1)) (hp : pc + 1 = pc') : gE M pc ls (gJ b :: gJ a :: st) μ Q = gE M pc' ls (gJ (ladd64 a b) :: st) μ Q := by
  subst hp
  exact q_step hb hd (Or.inl rfl) rfl
theorem q_lmul {a b : Int} (hb : mB M = bytes) (hd : decode bytes pc = .ok (.lmul, 1)) (hp : pc + 1 = pc') : gE M pc ls (gJ b :: gJ a :: st) μ Q = gE M pc' ls (gJ (lmul64 a b) :: st) μ Q := by
  subst hp
  exact q_step hb hd (Or.inl rfl) rfl
theorem q_land {a b : Int} (hb : mB M = bytes) (hd : decode bytes pc = .ok (.land, 1)) (hp : pc + 1 = pc') : gE M pc ls (gJ b :: gJ a :: st) μ Q = gE M pc' ls (gJ (land64 a b) :: st) μ Q := by
  subst hp
  exact q_step hb hd (Or.inl rfl) rfl
theorem q_lor {a b : Int} (hb : mB M = bytes) (hd : decode bytes pc = .ok (.lor, 1)) (hp : pc + 1 = pc') : gE M pc ls (gJ b :: gJ a :: st) μ Q = gE M pc' ls (gJ (lor64 a b) :: st) μ Q := by
  subst hp
  exact q_step hb hd (Or.inl rfl) rfl
theorem q_lxor {a b : Int} (hb : mB M = bytes) (hd : decode bytes pc = .ok (.lxor, 1)) (hp : pc + 1 = pc') : gE M pc ls (gJ b :: gJ a :: st) μ Q = gE M pc' ls (gJ (lxor64 a b) :: st) μ Q := by
  subst hp
  exact q_step hb hd (Or.inl rfl) rfl
theorem q_ldiv {a b : Int} (hb : mB M = bytes) (hd : decode bytes pc = .ok (.ldiv, 1)) (hp : pc + 1 = pc') (h : b ≠ 0) : gE M pc ls (gJ b :: gJ a :: st) μ Q = gE M pc' ls (gJ (ldiv64 a b) :: st) μ Q := by
  subst hp
  exact q_step hb hd (Or.inl rfl) (by unfold gex; dsimp only; unfold g_l2n gJ; dsimp only; rw [if_neg h]; rfl)
theorem q_lrem {a b : Int} (hb : mB M = bytes) (hd : decode bytes pc = .ok (.lrem, 1)) (hp : pc + 1 = pc') (h : b ≠ 0) : gE M pc ls (gJ b :: gJ a :: st) μ Q = gE M pc' ls (gJ (lrem64 a b) :: st) μ Q := by
  subst hp
  exact q_step hb hd (Or.inl rfl) (by unfold gex; dsimp only; unfold g_l2n gJ; dsimp only; rw [if_neg h]; rfl)
theorem q_lshl {a b : Int} (hb : mB M = bytes) (hd : decode bytes pc = .ok (.lshl, 1)) (hp : pc + 1 = pc') : gE M pc ls (gI b :: gJ a :: st) μ Q = gE M pc' ls (gJ (lshl64 a b) :: st) μ Q := by
  subst hp
  exact q_step hb hd (Or.inl rfl) rfl
theorem q_lcmp {a b : Int} (hb : mB M = bytes) (hd : decode bytes pc = .ok (.lcmp, 1)) (hp : pc + 1 = pc') : gE M pc ls (gJ b :: gJ a :: st) μ Q = gE M pc' ls (gI (lcmp64 a b) :: st) μ Q := by
  subst hp
  exact q_step hb hd (Or.inl rfl) rfl
theorem q_i2l {a : Int} (hb : mB M = bytes) (hd : decode bytes pc = .ok (.i2l, 1)) (hp : pc + 1 = pc') : gE M pc ls (gI a :: st) μ Q = gE M pc' ls (gJ a :: st) μ Q := by
  subst hp
  exact q_step hb hd (Or.inl rfl) rfl
theorem q_l2i {a : Int} (hb : mB M = bytes) (hd : decode bytes pc = .ok (.l2i, 1)) (hp : pc + 1 = pc') : gE M pc ls (gJ a :: st) μ Q = gE M pc' ls (gI (l2i32 a) :: st) μ Q := by
  subst hp
  exact q_step hb hd (Or.inl rfl) rfl
theorem q_dup {v : gv} (hb : mB M = bytes) (hd : decode bytes pc = .ok (.dup, 1)) (hv : g_small v = true) (hp : pc + 1 = pc') : gE M pc ls (v :: st) μ Q = gE M pc' ls (v :: v :: st) μ Q := by
  subst hp
  exact q_step hb hd (Or.inl rfl) (by unfold gex; dsimp only; unfold g_dup; dsimp only; rw [if_pos hv]; rfl)
theorem q_dup2 {v w : gv} (hb : mB M = bytes) (hd : decode bytes pc = .ok (.dup2, 1)) (hv : g_small v = true) (hw : g_small w = true) (hp : pc + 1 = pc') : gE M pc ls (v :: w :: st) μ Q = gE M pc' ls (v :: w :: v :: w :: st) μ Q := by
  subst hp
  exact q_step hb hd (Or.inl rfl) (by unfold gex; dsimp only; unfold g_dup2; dsimp only; rw [if_pos hv, if_pos hw]; rfl)
theorem q_pop {v : gv} (hb : mB M = bytes) (hd : decode bytes pc = .ok (.pop, 1)) (hv : g_small v = true) (hp : pc + 1 = pc') : gE M pc ls (v :: st) μ Q = gE M pc' ls st μ Q := by
  subst hp
  exact q_step hb hd (Or.inl rfl) (by unfold gex; dsimp only; unfold g_pop; dsimp only; rw [if_pos hv]; rfl)
theorem g_to_eq {off : Int} {t : Nat} (ht : (pc : Int) + off = (t : Int)) : g_to pc off ls st μ = some (.inl (t, ls, st, μ)) := by
  unfold g_to
  rw [ht, if_pos (Int.natCast_nonneg t), Int.toNat_natCast]
  rfl
theorem q_goto {off : Int} (hb : mB M = bytes) (hd : decode bytes pc = .ok (.goto off, 3)) (ht : (pc : Int) + off = (pc' : Int)) : gE M pc ls st μ Q = gE M pc' ls st μ Q := q_step hb hd (Or.inl rfl) (g_to_eq ht)
theorem q_ifG {cd : ClassFile.Cond} {off a : Int} {t : Nat} {P : Prop} [Decidable P] (hP : g_cmp cd a 0 = true ↔ P) (hb : mB M = bytes) (hd : decode bytes pc = .ok (.ifCond cd off, 3)) (ht : (pc : Int) + off = (t : Int)) (hp : pc + 3 = pc') : gE M pc ls (gI a :: st) μ Q = if P then gE M t ls st μ Q else gE M pc' ls st μ Q := by
  subst hp
  have hz : 0 ≤ (pc : Int) + off := by rw [ht]; exact Int.natCast_nonneg t
  by_cases h : P
  · rw [if_pos h]
    exact q_step hb hd (Or.inl rfl) (by unfold gex; dsimp only; unfold g_if gI; dsimp only; rw [if_pos hz, if_pos (hP.mpr h), ht, Int.toNat_natCast]; rfl)
  · rw [if_neg h]
    exact q_step hb hd (Or.inl rfl) (by unfold gex; dsimp only; unfold g_if gI; dsimp only; rw [if_pos hz, if_neg (fun q => h (hP.mp q))]; rfl)
theorem q_icmpG {cd : ClassFile.Cond} {off a b : Int} {t : Nat} {P : Prop} [Decidable P] (hP : g_cmp cd a b = true ↔ P) (hb : mB M = bytes) (hd : decode bytes pc = .ok (.if_icmp cd off, 3)) (ht : (pc : Int) + off = (t : Int)) (hp : pc + 3 = pc') : gE M pc ls (gI b :: gI a :: st) μ Q = if P then gE M t ls st μ Q else gE M pc' ls st μ Q := by
  subst hp
  have hz : 0 ≤ (pc : Int) + off := by rw [ht]; exact Int.natCast_nonneg t
  by_cases h : P
  · rw [if_pos h]
    exact q_step hb hd (Or.inl rfl) (by unfold gex; dsimp only; unfold g_if2 gI; dsimp only; rw [if_pos hz, if_pos (hP.mpr h), ht, Int.toNat_natCast]; rfl)
  · rw [if_neg h]
    exact q_step hb hd (Or.inl rfl) (by unfold gex; dsimp only; unfold g_if2 gI; dsimp only; rw [if_pos hz, if_neg (fun q => h (hP.mp q))]; rfl)
theorem q_get {ci j o idx n p x : Nat} {v : gv} (hb : mB M = bytes) (hd : decode bytes pc = .ok (.getfield idx, 3)) (ho : mO M = o) (hf : gfl o idx = some (ci, j, n, p)) (hv : g_fv μ ci x j = some v) (hp : pc + 3 = pc') : gE M pc ls (gO ci x :: st) μ Q = gE M pc' ls (v :: st) μ Q := by
  subst hp; subst ho
  exact q_step hb hd (Or.inl rfl) (by unfold gex; dsimp only; unfold g_get gO; rw [hf]; dsimp only; rw [if_pos rfl, hv]; rfl)
theorem q_iaload {n x : Nat} {j : Int} (hb : mB M = bytes) (hd : decode bytes pc = .ok (.iaload, 1)) (hp : pc + 1 = pc') (h0 : 0 ≤ j) (h1 : j < n) : gE M pc ls (gI j :: gA n x :: st) μ Q = gE M pc' ls (gI (μ x j) :: st) μ Q := by
  subst hp
  exact q_step hb hd (Or.inl rfl) (by unfold gex; dsimp only; unfold g_iald gI gA; dsimp only; rw [if_pos ⟨h0, h1⟩]; rfl)
theorem q_laload {n x : Nat} {j : Int} (hb : mB M = bytes) (hd : decode bytes pc = .ok (.laload, 1)) (hp : pc + 1 = pc') (h0 : 0 ≤ j) (h1 : j < n) : gE M pc ls (gI j :: gB n x :: st) μ Q = gE M pc' ls (gJ (μ x j) :: st) μ Q := by
  subst hp
  exact q_step hb hd (Or.inl rfl) (by unfold gex; dsimp only; unfold g_lald gI gB; dsimp only; rw [if_pos ⟨h0, h1⟩]; rfl)
theorem q_iastore {n x : Nat} {j v : Int} (hb : mB M = bytes) (hd : decode bytes pc = .ok (.iastore, 1)) (hp : pc + 1 = pc') (h0 : 0 ≤ j) (h1 : j < n) : gE M pc ls (gI v :: gI j :: gA n x :: st) μ Q = gE M pc' ls st (gS μ x j v) Q := by
  subst hp
  exact q_step hb hd (Or.inl rfl) (by unfold gex; dsimp only; unfold g_iast gI gA; dsimp only; rw [if_pos ⟨h0, h1⟩]; rfl)
theorem q_lastore {n x : Nat} {j v : Int} (hb : mB M = bytes) (hd : decode bytes pc = .ok (.lastore, 1)) (hp : pc + 1 = pc') (h0 : 0 ≤ j) (h1 : j < n) : gE M pc ls (gJ v :: gI j :: gB n x :: st) μ Q = gE M pc' ls st (gS μ x j v) Q := by
  subst hp
  exact q_step hb hd (Or.inl rfl) (by unfold gex; dsimp only; unfold g_last gI gJ gB; dsimp only; rw [if_pos ⟨h0, h1⟩]; rfl)
theorem q_alenA {n x : Nat} (hb : mB M = bytes) (hd : decode bytes pc = .ok (.arraylength, 1)) (hp : pc + 1 = pc') : gE M pc ls (gA n x :: st) μ Q = gE M pc' ls (gI n :: st) μ Q := by
  subst hp
  exact q_step hb hd (Or.inl rfl) rfl
theorem q_alenB {n x : Nat} (hb : mB M = bytes) (hd : decode bytes pc = .ok (.arraylength, 1)) (hp : pc + 1 = pc') : gE M pc ls (gB n x :: st) μ Q = gE M pc' ls (gI n :: st) μ Q := by
  subst hp
  exact q_step hb hd (Or.inl rfl) rfl
theorem q_put0 {ci j o idx n p x a b : Nat} {v : Int} {jj : Int} (hb : mB M = bytes) (hd : decode bytes pc = .ok (.putfield idx, 3)) (ho : mO M = o) (hf : gfl o idx = some (ci, j, n, p)) (hv : gfd ci j = some (0, a, b)) (hj : (j : Int) = jj) (hp : pc + 3 = pc') : gE M pc ls (gI v :: gO ci x :: st) μ Q = gE M pc' ls st (gS μ x jj v) Q := by
  subst hp; subst ho; subst hj
  exact q_step hb hd (Or.inl rfl) (by unfold gex; dsimp only; unfold g_put gI gO; rw [hf]; dsimp only; rw [hv]; exact if_pos rfl)
theorem q_put1 {ci j o idx n p x a b : Nat} {v : Int} {jj : Int} (hb : mB M = bytes) (hd : decode bytes pc = .ok (.putfield idx, 3)) (ho : mO M = o) (hf : gfl o idx = some (ci, j, n, p)) (hv : gfd ci j = some (1, a, b)) (hj : (j : Int) = jj) (hp : pc + 3 = pc') (h : v = 0 ∨ v = 1) : gE M pc ls (gI v :: gO ci x :: st) μ Q = gE M pc' ls st (gS μ x jj v) Q := by
  subst hp; subst ho; subst hj
  exact q_step hb hd (Or.inl rfl) (by unfold gex; dsimp only; unfold g_put gI gO; rw [hf]; dsimp only; rw [hv]; exact (if_pos rfl).trans (if_pos h))
theorem q_put2 {ci j o idx n p x a b : Nat} {v : Int} {jj : Int} (hb : mB M = bytes) (hd : decode bytes pc = .ok (.putfield idx, 3)) (ho : mO M = o) (hf : gfl o idx = some (ci, j, n, p)) (hv : gfd ci j = some (2, a, b)) (hj : (j : Int) = jj) (hp : pc + 3 = pc') : gE M pc ls (gJ v :: gO ci x :: st) μ Q = gE M pc' ls st (gS μ x jj v) Q := by
  subst hp; subst ho; subst hj
  exact q_step hb hd (Or.inl rfl) (by unfold gex; dsimp only; unfold g_put gJ gO; rw [hf]; dsimp only; rw [hv]; exact if_pos rfl)
theorem g_fv0 {ci j a b x : Nat} {jj : Int} (h : gfd ci j = some (0, a, b)) (hj : (j : Int) = jj) : g_fv μ ci x j = some (gI (μ x jj)) := by subst hj; unfold g_fv; rw [h]; rfl
theorem g_fv1 {ci j a b x : Nat} {jj : Int} (h : gfd ci j = some (1, a, b)) (hj : (j : Int) = jj) : g_fv μ ci x j = some (gI (μ x jj)) := by subst hj; unfold g_fv; rw [h]; rfl
theorem g_fv2 {ci j a b x : Nat} {jj : Int} (h : gfd ci j = some (2, a, b)) (hj : (j : Int) = jj) : g_fv μ ci x j = some (gJ (μ x jj)) := by subst hj; unfold g_fv; rw [h]; rfl
theorem g_fv3 {ci j a b x : Nat} (h : gfd ci j = some (3, a, b)) : g_fv μ ci x j = some (gO b (x + a)) := by unfold g_fv; rw [h]; rfl
theorem g_fv4 {ci j a b x : Nat} (h : gfd ci j = some (4, a, b)) : g_fv μ ci x j = some (gA b (x + a)) := by unfold g_fv; rw [h]; rfl
theorem g_fv5 {ci j a b x : Nat} (h : gfd ci j = some (5, a, b)) : g_fv μ ci x j = some (gB b (x + a)) := by unfold g_fv; rw [h]; rfl
theorem q_min {o idx p : Nat} {a b : Int} (hb : mB M = bytes) (hd : decode bytes pc = .ok (.invokestatic idx, 3)) (ho : mO M = o) (hm : gmx o idx = some (0, p)) (hz : (Nat.ble 1 (mF M) && Nat.ble 21 (mZ M)) = true) (hs : Nat.ble (st.map g_cat).sum 8 = true) (hp : pc + 3 = pc') : gE M pc ls (gI b :: gI a :: st) μ Q = gE M pc' ls (gI (imin a b) :: st) μ Q := by
  subst hp; subst ho
  rw [Bool.and_eq_true] at hz
  exact q_step hb hd (Or.inl rfl) (by unfold gex; dsimp only; rw [hm]; dsimp only; unfold g_math gI; dsimp only; rw [if_pos ⟨Nat.le_of_ble_eq_true hz.1, Nat.le_of_ble_eq_true hz.2, Nat.le_of_ble_eq_true hs⟩]; rfl)
theorem q_max {o idx p : Nat} {a b : Int} (hb : mB M = bytes) (hd : decode bytes pc = .ok (.invokestatic idx, 3)) (ho : mO M = o) (hm : gmx o idx = some (1, p)) (hz : (Nat.ble 1 (mF M) && Nat.ble 21 (mZ M)) = true) (hs : Nat.ble (st.map g_cat).sum 8 = true) (hp : pc + 3 = pc') : gE M pc ls (gI b :: gI a :: st) μ Q = gE M pc' ls (gI (imax a b) :: st) μ Q := by
  subst hp; subst ho
  rw [Bool.and_eq_true] at hz
  exact q_step hb hd (Or.inl rfl) (by unfold gex; dsimp only; rw [hm]; dsimp only; unfold g_math gI; dsimp only; rw [if_pos ⟨Nat.le_of_ble_eq_true hz.1, Nat.le_of_ble_eq_true hz.2, Nat.le_of_ble_eq_true hs⟩]; rfl)
/-- what a call wants of the arguments: static, virtual -/
def g_cs (M' : Nat) (as ls' : List gv) : Prop := as.length = g_np M' ∧ Nat.ble (g_exp as).length (mL M') = true ∧ g_ent M' as = ls'
def g_cv (M' : Nat) (as ls' : List gv) : Prop := as.length = g_np M' + 1 ∧ Nat.ble (g_exp as).length (mL M') = true ∧ g_rcv M' as = true ∧ g_ent M' as = ls'
theorem g_fit_of {M M' f z f' z' l' : Nat} (h1 : mF M = f ∧ mZ M = z) (h2 : mF M' = f' ∧ mZ M' = z') (h3 : mL M' = l') (h : (Nat.ble (f' + 1) f && Nat.ble (8 + (l' + 11) + z') z) = true) : g_fit M M' = true := by
  unfold g_fit
  rw [h1.1, h1.2, h2.1, h2.2, h3]
  rw [Bool.and_eq_true] at h ⊢
  exact ⟨decide_eq_true (Nat.le_of_ble_eq_true h.1), decide_eq_true (Nat.le_of_ble_eq_true h.2)⟩
theorem q_calls {o idx M' s p1 p2 p3 : Nat} {as : List gv} {bk : Int → List gv} (rest : List gv) (hb : mB M = bytes) (hd : decode bytes pc = .ok (.invokestatic idx, 3)) (ho : mO M = o) (hm : gml o idx = some (M', s, p1, p2, p3)) (hx : gmx o idx = none) (hs2 : Nat.ble 2 s = true) (hfit : g_fit M M' = true) (hc : g_cs M' as ls') (hk : ∀ r, g_back M' r rest = bk r) (hst : st = as.reverse ++ rest) (hs : Nat.ble (rest.map g_cat).sum 8 = true) (hp : pc + 3 = pc') : gE M pc ls st μ Q = gE M' 0 ls' [] μ (fun r μ => gE M pc' ls (bk r) μ Q) := by
  subst hp; subst ho; subst hst
  obtain ⟨c1, c2, c3⟩ := hc
  have h := gE_call (M := M) (pc := pc) (ls := ls) (st := as.reverse ++ rest) (μ := μ) (M' := M') (as := as) (pc' := pc + 3) (ls' := ls) (st' := rest) (μ' := μ) (gs_of hb hd (Or.inl rfl) (by
    unfold gex; dsimp only; rw [hx]; dsimp only; unfold g_call; rw [hm]; dsimp only
    have t : (as.reverse ++ rest).take as.length = as.reverse := by rw [← List.length_reverse (as := as), List.take_left]
    have d : (as.reverse ++ rest).drop as.length = rest := by rw [← List.length_reverse (as := as), List.drop_left]
    rw [if_pos ⟨⟨fun _ => Nat.le_of_ble_eq_true hs2, fun _ => rfl⟩, hfit⟩, if_pos (show true = true from rfl), ← c1, t, d, List.reverse_reverse, if_pos ⟨by rw [List.length_append, List.length_reverse]; omega, Nat.le_of_ble_eq_true hs, Nat.le_of_ble_eq_true c2, Or.inl rfl⟩])) Q
  rw [c3] at h
  rw [propext h]
  congr 1
  funext r m
  rw [hk]
theorem q_callv {o idx M' s p1 p2 p3 : Nat} {as : List gv} {bk : Int → List gv} (rest : List gv) (hb : mB M = bytes) (hd : decode bytes pc = .ok (.invokevirtual idx, 3)) (ho : mO M = o) (hm : gml o idx = some (M', s, p1, p2, p3)) (hs2 : Nat.ble 2 s = false) (hfit : g_fit M M' = true) (hc : g_cv M' as ls') (hk : ∀ r, g_back M' r rest = bk r) (hst : st = as.reverse ++ rest) (hs : Nat.ble (rest.map g_cat).sum 8 = true) (hp : pc + 3 = pc') : gE M pc ls st μ Q = gE M' 0 ls' [] μ (fun r μ => gE M pc' ls (bk r) μ Q) := by
  subst hp; subst ho; subst hst
  obtain ⟨c1, c2, c4, c3⟩ := hc
  have hs3 : ¬ 2 ≤ s := fun q => by rw [Nat.ble_eq_true_of_le q] at hs2; cases hs2
  have h := gE_call (M := M) (pc := pc) (ls := ls) (st := as.reverse ++ rest) (μ := μ) (M' := M') (as := as) (pc' := pc + 3) (ls' := ls) (st' := rest) (μ' := μ) (gs_of hb hd (Or.inl rfl) (by
    unfold gex; dsimp only; unfold g_call; rw [hm]; dsimp only
    have t : (as.reverse ++ rest).take as.length = as.reverse := by rw [← List.length_reverse (as := as), List.take_left]
    have d : (as.reverse ++ rest).drop as.length = rest := by rw [← List.length_reverse (as := as), List.drop_left]
    rw [if_pos ⟨⟨fun q => (Bool.noConfusion q), fun q => absurd q hs3⟩, hfit⟩, if_neg (show ¬ false = true from fun q => (Bool.noConfusion q)), ← c1, t, d, List.reverse_reverse, if_pos ⟨by rw [List.length_append, List.length_reverse]; omega, Nat.le_of_ble_eq_true hs, Nat.le_of_ble_eq_true c2, Or.inr c4⟩])) Q
  rw [c3] at h
  rw [propext h]
  congr 1
  funext r m
  rw [hk]
theorem q_iret {a : Int} (hb : mB M = bytes) (hd : decode bytes pc = .ok (.ireturn, 1)) (ht : mT M = some .int) : gE M pc ls [gI a] μ Q = Q a μ := propext (gE_ret (gs_of hb hd (Or.inl rfl) (by unfold gex; dsimp only; unfold g_ret gI; rw [ht]; rfl)) Q)
theorem q_zret {a : Int} (hb : mB M = bytes) (hd : decode bytes pc = .ok (.ireturn, 1)) (ht : mT M = some .boolean) (h : a = 0 ∨ a = 1) : gE M pc ls [gI a] μ Q = Q a μ := propext (gE_ret (gs_of hb hd (Or.inl rfl) (by unfold gex; dsimp only; unfold g_ret gI; rw [ht]; show (if a = 0 ∨ a = 1 then _ else _) = _; rw [if_pos h])) Q)
theorem q_lret {a : Int} (hb : mB M = bytes) (hd : decode bytes pc = .ok (.lreturn, 1)) (ht : mT M = some .long) : gE M pc ls [gJ a] μ Q = Q a μ := propext (gE_ret (gs_of hb hd (Or.inl rfl) (by unfold gex; dsimp only; unfold g_lret gJ; rw [ht]; rfl)) Q)
theorem q_vret (hb : mB M = bytes) (hd : decode bytes pc = .ok (.return_, 1)) (ht : mT M = none) : gE M pc ls [] μ Q = Q 0 μ := propext (gE_ret (gs_of hb hd (Or.inl rfl) (by unfold gex; dsimp only; unfold g_vret; rw [ht]; rfl)) Q)
theorem q_tsin {d lo hi k off : Int} {offs : Array Int} (hb : mB M = bytes) (hd : decode bytes pc = .ok (.tableswitch d lo hi offs, len)) (hin : ¬ (k < lo ∨ hi < k)) (ho : offs[(k - lo).toNat]? = some off) (ht : (pc : Int) + off = (pc' : Int)) : gE M pc ls (gI k :: st) μ Q = gE M pc' ls st μ Q := q_step hb hd (Or.inr rfl) (by unfold gex; dsimp only; unfold g_tsw gI; dsimp only; rw [if_neg hin, ho]; exact g_to_eq ht)
theorem q_tsout {d lo hi a : Int} {offs : Array Int} (hb : mB M = bytes) (hd : decode bytes pc = .ok (.tableswitch d lo hi offs, len)) (h : a < lo ∨ hi < a) (ht : (pc : Int) + d = (pc' : Int)) : gE M pc ls (gI a :: st) μ Q = gE M pc' ls st μ Q := q_step hb hd (Or.inr rfl) (by unfold gex; dsimp only; unfold g_tsw gI; dsimp only; rw [if_pos h]; exact g_to_eq ht)
theorem q_lsw {d a off : Int} {ps : Array (Int × Int)} (hb : mB M = bytes) (hd : decode bytes pc = .ok (.lookupswitch d ps, len)) (hs : (ps.toList.zip (ps.toList.drop 1)).all (fun (a, next) => a.1 < next.1) = true) (ho : Op.lookupswitch.offset ps.toList d a = off) (ht : (pc : Int) + off = (pc' : Int)) : gE M pc ls (gI a :: st) μ Q = gE M pc' ls st μ Q := q_step hb hd (Or.inr rfl) (by unfold gex; dsimp only; unfold g_lsw gI; dsimp only; rw [if_pos hs, ho]; exact g_to_eq ht)
theorem gc_eq {a b : Int} : g_cmp .eq a b = true ↔ a = b := by simp [g_cmp]
theorem gc_ne {a b : Int} : g_cmp .ne a b = true ↔ ¬ a = b := by simp [g_cmp]
theorem gc_lt {a b : Int} : g_cmp .lt a b = true ↔ a < b := by simp [g_cmp]
theorem gc_ge {a b : Int} : g_cmp .ge a b = true ↔ b ≤ a := by simp [g_cmp]
theorem gc_gt {a b : Int} : g_cmp .gt a b = true ↔ b < a := by simp [g_cmp]
theorem gc_le {a b : Int} : g_cmp .le a b = true ↔ a ≤ b := by simp [g_cmp]
end QEQ
