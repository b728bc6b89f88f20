/-! the check: churn, keep, back -/
def xDw (z : Int) : Int := (z * 1103515245 + 12345) % 2147483648
def tChu (room : Int) (gr : Int → Int) (dv : Int) : Nat → Int → (Int → Int) → Int → Int
  | 0, _, T => T
  | m + 1, z, T => tChu room gr dv m (xDw (xDw (xDw z))) (if 0 ≤ T (1673 + gr (xDw z / 65536 % dv)) then tLkT T room (T (1673 + gr (xDw z / 65536 % dv))) (xDw (xDw z) / 65536 % 64) (1 + xDw (xDw (xDw z)) / 65536 % 2) else T)
def tChA (room : Int) (gr : Int → Int) (dv seed : Int) (T : Int → Int) (z n : Int) : Int :=
  if -1 ≤ z ∧ 1 ≤ n ∧ n ≤ 40 then (if dv = 0 then -2 else w32 (tChu room gr dv n.toNat (if z < 0 then seed else z) T 1878 - T 1878)) else -1
section MODEL18
variable {μ : gM} {b : Int} {T : Int → Int} {Q : Int → gM → Prop}
theorem bmod64 {z : Int} (h : in64 z) : Int.bmod z (2 ^ 64) = z := by
  unfold in64 at h
  exact Int.bmod_eq_of_le (by omega) (by omega)
theorem i64_id {z : Int} (h : in64 z) : (Int64.ofInt z).toInt = z := by
  rw [Int64.toInt_ofInt]
  exact bmod64 h
theorem lmul64_id {a b : Int} (ha : in64 a) (hb : in64 b) (h : in64 (a * b)) : lmul64 a b = a * b := by
  unfold lmul64
  rw [Int64.toInt_mul, i64_id ha, i64_id hb, bmod64 h]
theorem ladd64_id {a b : Int} (ha : in64 a) (hb : in64 b) (h : in64 (a + b)) : ladd64 a b = a + b := by
  unfold ladd64
  rw [Int64.toInt_add, i64_id ha, i64_id hb, bmod64 h]
theorem ldiv64_id {a b : Int} (h0 : 0 ≤ a) (h1 : a < 2147483648) (h2 : 0 < b) (h3 : b < 2147483648) : ldiv64 a b = a / b := by
  unfold ldiv64
  have q : 0 ≤ a / b ∧ a / b ≤ a := ⟨Int.ediv_nonneg h0 (by omega), Int.ediv_le_self b h0⟩
  rw [Int64.toInt_div, i64_id (by unfold in64; omega), i64_id (by unfold in64; omega), Int.tdiv_eq_ediv_of_nonneg h0, bmod64 (by unfold in64; omega)]
theorem lrem64_id {a b : Int} (h0 : 0 ≤ a) (h1 : a < 2147483648) (h2 : 0 < b) (h3 : b < 2147483648) : lrem64 a b = a % b := by
  unfold lrem64
  have q : 0 ≤ a / b ∧ a / b ≤ a := ⟨Int.ediv_nonneg h0 (by omega), Int.ediv_le_self b h0⟩
  have q2 := Int.emod_nonneg a (show b ≠ 0 by omega)
  have q3 := Int.emod_lt_of_pos a h2
  have q4 := Int.emod_def a b
  have q5 : a / b * b = a - a % b := by rw [q4, Int.mul_comm]; omega
  have d := ldiv64_id h0 h1 h2 h3
  unfold ldiv64 at d
  rw [Int64.toInt_sub, Int64.toInt_mul, d, i64_id (z := a) (by unfold in64; omega), i64_id (z := b) (by unfold in64; omega), q5, bmod64 (z := a - a % b) (by unfold in64; omega)]
  have e : a - (a - a % b) = a % b := by omega
  rw [e, bmod64 (by unfold in64; omega)]
theorem l2i32_id {a : Int} (h0 : 0 ≤ a) (h1 : a < 2147483648) : l2i32 a = a := by
  unfold l2i32
  rw [Int64.toInt_toInt32, i64_id (by unfold in64; omega)]
  exact Int.bmod_eq_of_le (by omega) (by omega)
theorem bv64_nat {a : Int} (h0 : 0 ≤ a) (h1 : a < 9223372036854775808) : (BitVec.ofInt 64 a).toNat = a.toNat := by
  rw [BitVec.toNat_ofInt]
  omega
theorem land_mask {a : Int} (h0 : 0 ≤ a) (h1 : a < 9223372036854775808) : land64 a 2147483647 = a % 2147483648 := by
  rw [land64_bv]
  have e : (BitVec.ofInt 64 a &&& BitVec.ofInt 64 2147483647).toNat = a.toNat % 2 ^ 31 := by
    rw [BitVec.toNat_and, bv64_nat h0 h1, bv64_nat (by omega) (by omega)]
    exact Nat.and_two_pow_sub_one_eq_mod a.toNat 31
  have h2 : (BitVec.ofInt 64 a &&& BitVec.ofInt 64 2147483647).toInt = ((BitVec.ofInt 64 a &&& BitVec.ofInt 64 2147483647).toNat : Int) := BitVec.toInt_eq_toNat_of_lt (by rw [e]; omega)
  rw [h2, e]
  omega
theorem xDw_in {z : Int} : 0 ≤ xDw z ∧ xDw z < 2147483648 := by unfold xDw; omega
theorem drw64 {z : Int} (h : 0 ≤ z ∧ z < 2147483648) : land64 (ladd64 (lmul64 z 1103515245) 12345) 2147483647 = xDw z := by
  rw [lmul64_id (by unfold in64; omega) (by unfold in64; omega) (by unfold in64; omega), ladd64_id (by unfold in64; omega) (by unfold in64; omega) (by unfold in64; omega), land_mask (by omega) (by omega)]
  rfl
theorem s_drawnBy {z most : Int} {μ : gM} (hz : μ 167 38 = z) (h : 0 ≤ z ∧ z < 2147483648) (hm : 1 ≤ most ∧ most ≤ 64) : gE 333 0 [gO 10 167, gI most] [] μ Q = Q (xDw z / 65536 % most) (gS μ 167 38 (xDw z)) := by
  have x := xDw_in (z := z)
  have h1 : 0 ≤ z := h.1
  have d1 : ldiv64 (xDw z) 65536 = xDw z / 65536 := ldiv64_id (by omega) (by omega) (by omega) (by omega)
  have d2 : lrem64 (xDw z / 65536) most = xDw z / 65536 % most := lrem64_id (by omega) (by omega) (by omega) (by omega)
  have m1 := Int.emod_nonneg (xDw z / 65536) (show most ≠ 0 by omega)
  have m2 := Int.emod_lt_of_pos (xDw z / 65536) (show 0 < most by omega)
  have d3 : l2i32 (xDw z / 65536 % most) = xDw z / 65536 % most := l2i32_id m1 (by omega)
  have n0 : most ≠ 0 := by omega
  simp (disch := first | assumption | omega) only [e333_0, e333_1, e333_2, e333_5, e333_8, e333_9, e333_12, e333_13, e333_16, e333_17, e333_20, e333_21, e333_24, e333_27, e333_28, e333_29, e333_30, e333_31, e333_32, gK0_eq, gK1_eq, gK3_eq, w32_id, bI_eq0, bI_eq1, Bool.false_eq_true, not_true_eq_false, not_false_eq_true, ne_eq, ite_not, ↓reduceIte, if_true, if_false, Int.reduceToNat, Nat.reduceAdd, Int.reduceEq, Int.reduceLT, Int.reduceLE, Int.reduceNeg, bI_T, bI_F, hz, drw64, h, gS_same, d1, d2, d3, n0]
end MODEL18
