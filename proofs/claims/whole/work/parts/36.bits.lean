/-! bits of words -/
def bt (w : Int) (k : Nat) : Bool := (BitVec.ofInt 32 w).getLsbD k
def btl (w : Int) (k : Nat) : Bool := (BitVec.ofInt 64 w).getLsbD k
def in32 (w : Int) : Prop := -2147483648 ≤ w ∧ w < 2147483648
def in64 (w : Int) : Prop := -9223372036854775808 ≤ w ∧ w < 9223372036854775808
section BITS
theorem bv32_toInt (x : BitVec 32) : BitVec.ofInt 32 x.toInt = x := BitVec.ofInt_toInt
theorem bv64_toInt (x : BitVec 64) : BitVec.ofInt 64 x.toInt = x := BitVec.ofInt_toInt
theorem ior32_bv (a b : Int) : ior32 a b = (BitVec.ofInt 32 a ||| BitVec.ofInt 32 b).toInt := rfl
theorem iand32_bv (a b : Int) : iand32 a b = (BitVec.ofInt 32 a &&& BitVec.ofInt 32 b).toInt := rfl
theorem ixor32_bv (a b : Int) : ixor32 a b = (BitVec.ofInt 32 a ^^^ BitVec.ofInt 32 b).toInt := rfl
theorem lor64_bv (a b : Int) : lor64 a b = (BitVec.ofInt 64 a ||| BitVec.ofInt 64 b).toInt := rfl
theorem land64_bv (a b : Int) : land64 a b = (BitVec.ofInt 64 a &&& BitVec.ofInt 64 b).toInt := rfl
theorem lxor64_bv (a b : Int) : lxor64 a b = (BitVec.ofInt 64 a ^^^ BitVec.ofInt 64 b).toInt := rfl
theorem bt_or {a b : Int} {k : Nat} : bt (ior32 a b) k = (bt a k || bt b k) := by
  unfold bt; rw [ior32_bv, bv32_toInt, BitVec.getLsbD_or]
theorem bt_and {a b : Int} {k : Nat} : bt (iand32 a b) k = (bt a k && bt b k) := by
  unfold bt; rw [iand32_bv, bv32_toInt, BitVec.getLsbD_and]
theorem bt_xor {a b : Int} {k : Nat} : bt (ixor32 a b) k = (bt a k ^^ bt b k) := by
  unfold bt; rw [ixor32_bv, bv32_toInt, BitVec.getLsbD_xor]
theorem btl_or {a b : Int} {k : Nat} : btl (lor64 a b) k = (btl a k || btl b k) := by
  unfold btl; rw [lor64_bv, bv64_toInt, BitVec.getLsbD_or]
theorem btl_and {a b : Int} {k : Nat} : btl (land64 a b) k = (btl a k && btl b k) := by
  unfold btl; rw [land64_bv, bv64_toInt, BitVec.getLsbD_and]
theorem btl_xor {a b : Int} {k : Nat} : btl (lxor64 a b) k = (btl a k ^^ btl b k) := by
  unfold btl; rw [lxor64_bv, bv64_toInt, BitVec.getLsbD_xor]
theorem in32_or {a b : Int} : in32 (ior32 a b) := by
  rw [ior32_bv]; unfold in32
  have h1 := BitVec.le_toInt (BitVec.ofInt 32 a ||| BitVec.ofInt 32 b)
  have h2 := BitVec.toInt_lt (x := BitVec.ofInt 32 a ||| BitVec.ofInt 32 b)
  omega
theorem in32_and {a b : Int} : in32 (iand32 a b) := by
  rw [iand32_bv]; unfold in32
  have h1 := BitVec.le_toInt (BitVec.ofInt 32 a &&& BitVec.ofInt 32 b)
  have h2 := BitVec.toInt_lt (x := BitVec.ofInt 32 a &&& BitVec.ofInt 32 b)
  omega
theorem in64_or {a b : Int} : in64 (lor64 a b) := by
  rw [lor64_bv]; unfold in64
  have h1 := BitVec.le_toInt (BitVec.ofInt 64 a ||| BitVec.ofInt 64 b)
  have h2 := BitVec.toInt_lt (x := BitVec.ofInt 64 a ||| BitVec.ofInt 64 b)
  omega
theorem in64_and {a b : Int} : in64 (land64 a b) := by
  rw [land64_bv]; unfold in64
  have h1 := BitVec.le_toInt (BitVec.ofInt 64 a &&& BitVec.ofInt 64 b)
  have h2 := BitVec.toInt_lt (x := BitVec.ofInt 64 a &&& BitVec.ofInt 64 b)
  omega
theorem toInt_ofInt32 {a : Int} (h : in32 a) : (BitVec.ofInt 32 a).toInt = a := by
  unfold in32 at h
  rw [BitVec.toInt_ofInt]
  rw [Int.bmod_def]
  omega
theorem toInt_ofInt64 {a : Int} (h : in64 a) : (BitVec.ofInt 64 a).toInt = a := by
  unfold in64 at h
  rw [BitVec.toInt_ofInt]
  rw [Int.bmod_def]
  omega
theorem bt_ext {a b : Int} (ha : in32 a) (hb : in32 b) (h : ∀ k, k < 32 → bt a k = bt b k) : a = b := by
  have : BitVec.ofInt 32 a = BitVec.ofInt 32 b := BitVec.eq_of_getLsbD_eq (fun k hk => h k hk)
  rw [← toInt_ofInt32 ha, this, toInt_ofInt32 hb]
theorem btl_ext {a b : Int} (ha : in64 a) (hb : in64 b) (h : ∀ k, k < 64 → btl a k = btl b k) : a = b := by
  have : BitVec.ofInt 64 a = BitVec.ofInt 64 b := BitVec.eq_of_getLsbD_eq (fun k hk => h k hk)
  rw [← toInt_ofInt64 ha, this, toInt_ofInt64 hb]
theorem bt_zero {k : Nat} : bt 0 k = false := by
  unfold bt; simp
theorem btl_zero {k : Nat} : btl 0 k = false := by
  unfold btl; simp
theorem bt_m1 {k : Nat} (hk : k < 32) : bt (-1) k = true := by
  unfold bt
  have : BitVec.ofInt 32 (-1) = BitVec.allOnes 32 := by decide
  rw [this, BitVec.getLsbD_allOnes]; simp [hk]
theorem btl_m1 {k : Nat} (hk : k < 64) : btl (-1) k = true := by
  unfold btl
  have : BitVec.ofInt 64 (-1) = BitVec.allOnes 64 := by decide
  rw [this, BitVec.getLsbD_allOnes]; simp [hk]
theorem bt_shl1 : ∀ s : Fin 32, ∀ k : Fin 32, bt (ishl32 1 (s.val : Int)) k.val = decide (k = s) := by decide
set_option maxRecDepth 100000 in
theorem btl_shl1 : ∀ s : Fin 64, ∀ k : Fin 64, btl (lshl64 1 (s.val : Int)) k.val = decide (k = s) := by decide
theorem bt_shl {s : Int} {k : Nat} (h : 0 ≤ s ∧ s < 32) (hk : k < 32) : bt (ishl32 1 s) k = decide ((k : Int) = s) := by
  have := bt_shl1 ⟨s.toNat, by omega⟩ ⟨k, hk⟩
  simp only [Fin.mk.injEq] at this
  have e : ((s.toNat : Nat) : Int) = s := by omega
  rw [e] at this
  rw [this]
  exact decide_eq_decide.mpr (by omega)
theorem btl_shl {s : Int} {k : Nat} (h : 0 ≤ s ∧ s < 64) (hk : k < 64) : btl (lshl64 1 s) k = decide ((k : Int) = s) := by
  have := btl_shl1 ⟨s.toNat, by omega⟩ ⟨k, hk⟩
  simp only [Fin.mk.injEq] at this
  have e : ((s.toNat : Nat) : Int) = s := by omega
  rw [e] at this
  rw [this]
  exact decide_eq_decide.mpr (by omega)
theorem bt_any {a : Int} (h : in32 a) : a ≠ 0 ↔ ∃ k, k < 32 ∧ bt a k = true := by
  constructor
  · intro h1
    apply Classical.byContradiction
    intro h2
    refine h1 (bt_ext h (by unfold in32; omega) (fun k hk => ?_))
    rw [bt_zero]
    cases hb : bt a k with
    | false => rfl
    | true => exact absurd ⟨k, hk, hb⟩ h2
  · rintro ⟨k, _, hb⟩ h1
    rw [h1, bt_zero] at hb
    exact Bool.noConfusion hb
theorem btl_any {a : Int} (h : in64 a) : a ≠ 0 ↔ ∃ k, k < 64 ∧ btl a k = true := by
  constructor
  · intro h1
    apply Classical.byContradiction
    intro h2
    refine h1 (btl_ext h (by unfold in64; omega) (fun k hk => ?_))
    rw [btl_zero]
    cases hb : btl a k with
    | false => rfl
    | true => exact absurd ⟨k, hk, hb⟩ h2
  · rintro ⟨k, _, hb⟩ h1
    rw [h1, btl_zero] at hb
    exact Bool.noConfusion hb
theorem ishr32_bv1 : ∀ s : Fin 32, ((Int32.ofInt (s.val : Int) &&& 31).toBitVec.smod 32).toNat = s.val := by decide
theorem ishr32_bv {a s : Int} (h : 0 ≤ s ∧ s < 32) : ishr32 a s = ((BitVec.ofInt 32 a).sshiftRight s.toNat).toInt := by
  have h1 := ishr32_bv1 ⟨s.toNat, by omega⟩
  have e : ((s.toNat : Nat) : Int) = s := by omega
  simp only [e] at h1
  have h2 : ishr32 a s = ((BitVec.ofInt 32 a).sshiftRight ((Int32.ofInt s &&& 31).toBitVec.smod 32).toNat).toInt := rfl
  rw [h2, h1]
theorem bt_shr {a s : Int} {k : Nat} (h : 0 ≤ s ∧ s < 32) (hk : (k : Int) + s < 32) : bt (ishr32 a s) k = bt a (k + s.toNat) := by
  unfold bt
  rw [ishr32_bv h, bv32_toInt, BitVec.getLsbD_sshiftRight]
  have e1 : ¬ (32 ≤ k) := by omega
  have e2 : s.toNat + k < 32 := by omega
  simp [e1, e2, Nat.add_comm]
  intro q
  exact absurd q (by omega)
theorem iand1 {a : Int} : iand32 a 1 = if bt a 0 = true then 1 else 0 := by
  apply bt_ext in32_and
  · unfold in32; split <;> omega
  · intro k hk
    rw [bt_and]
    have e : bt 1 k = decide (k = 0) := by
      have := bt_shl (s := 0) (k := k) (by omega) hk
      have e1 : ishl32 1 0 = 1 := by decide
      rw [e1] at this
      rw [this]
      exact decide_eq_decide.mpr (by omega)
    rw [e]
    by_cases hk0 : k = 0
    · subst hk0
      cases hb : bt a 0 with
      | false => simp [bt_zero]
      | true => simp [e]
    · rw [decide_eq_false hk0, Bool.and_false]
      split
      · rw [e, decide_eq_false hk0]
      · rw [bt_zero]
theorem bt_test {a s : Int} (h : 0 ≤ s ∧ s < 32) : iand32 (ishr32 a s) 1 = if bt a s.toNat = true then 1 else 0 := by
  rw [iand1, bt_shr h (by omega), Nat.zero_add]
theorem in32_shl1 : ∀ s : Fin 32, -2147483648 ≤ ishl32 1 (s.val : Int) ∧ ishl32 1 (s.val : Int) < 2147483648 := by decide
end BITS
