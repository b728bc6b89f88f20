/-! tokens: the reader's and the check's -/
def kwL : List Int := [86282469, 140190821, 46433888, 654358528, 658551168, 620213248, 642945024, 620220416]
def kw (i : Int) : Int := kwL.getD i.toNat 0
def tokR (s v k w : Int) : Prop := (s = 0 ∧ k = 0) ∨ (s = 1 ∧ k = 1 ∧ (0 ≤ w ∧ w ≤ 7) ∧ v = kw w) ∨ (s = 1 ∧ k = 2 ∧ v = w ∧ ∀ i, 0 ≤ i → i ≤ 7 → v ≠ kw i) ∨ (s = 2 ∧ k = 3 ∧ 0 ≤ w ∧ (v = w ∨ (99999 < v ∧ 99999 < w))) ∨ (s = 3 ∧ k = 4) ∨ (s = 4 ∧ k = 5)
def dg (f : Int → Int) (a e i : Int) : Int := if a + i < e then f (a + i) - 96 else 0
section TOK
variable {f f' : Int → Int} {stop a e n : Int}
theorem nRun_congr {P P' : Int → Bool} : ∀ (m : Nat) (k : Int), (∀ j, k ≤ j → P j = P' j) → nRun P m k = nRun P' m k := by
  intro m
  induction m with
  | zero => intro k _; rfl
  | succ m ih =>
    intro k h
    rw [nRun, nRun, h k (by omega), ih (k + 1) (fun j hj => h j (by omega))]
theorem isB_congr (h : ∀ i, 0 ≤ i → i < stop → f i = f' i) {k : Int} (h0 : 0 ≤ k) : isB f stop k = isB f' stop k := by
  unfold isB
  by_cases c : k < stop
  · rw [h k h0 c]
  · rw [decide_eq_false c, Bool.false_and, Bool.false_and]
theorem isS_congr (h : ∀ i, 0 ≤ i → i < stop → f i = f' i) {k : Int} (h0 : 0 ≤ k) : isS f stop k = isS f' stop k := by
  unfold isS
  by_cases c : k < stop
  · rw [h k h0 c]
  · rw [decide_eq_false c, Bool.false_and, Bool.false_and]
theorem isN_congr (h : ∀ i, 0 ≤ i → i < stop → f i = f' i) {k : Int} (h0 : 0 ≤ k) : isN f stop k = isN f' stop k := by
  unfold isN
  by_cases c : k < stop
  · rw [h k h0 c]
  · rw [decide_eq_false c, Bool.false_and, Bool.false_and]
theorem kA_congr (h : ∀ i, 0 ≤ i → i < stop → f i = f' i) (h0 : 0 ≤ n) : kA f stop n = kA f' stop n := nRun_congr _ _ (fun j hj => isB_congr h (by omega))
theorem kE_congr (h : ∀ i, 0 ≤ i → i < stop → f i = f' i) (h0 : 0 ≤ a) : kE f stop a = kE f' stop a := nRun_congr _ _ (fun j hj => isS_congr h (by omega))
theorem kD_congr (h : ∀ i, 0 ≤ i → i < stop → f i = f' i) (h0 : 0 ≤ a) : kD f stop a = kD f' stop a := nRun_congr _ _ (fun j hj => isN_congr h (by omega))
theorem kN_congr (h : ∀ i, 0 ≤ i → i < stop → f i = f' i) (h0 : 0 ≤ a) : kN f stop a = kN f' stop a := by
  unfold kN
  rw [isS_congr h h0, isN_congr h h0, kE_congr h h0, kD_congr h h0]
theorem kE_in (h : a ≤ stop) : a ≤ kE f stop a ∧ kE f stop a ≤ stop := by
  have := nRun_in (P := isS f stop) (stop - a).toNat a
  unfold kE
  omega
theorem kD_in (h : a ≤ stop) : a ≤ kD f stop a ∧ kD f stop a ≤ stop := by
  have := nRun_in (P := isN f stop) (stop - a).toNat a
  unfold kD
  omega
theorem kA_in (h : n ≤ stop) : n ≤ kA f stop n ∧ kA f stop n ≤ stop := by
  have := nRun_in (P := isB f stop) (stop - n).toNat n
  unfold kA
  omega
theorem kN_in (h : a ≤ stop) : a ≤ kN f stop a ∧ kN f stop a ≤ stop := by
  unfold kN
  split
  · omega
  · split
    · exact kE_in h
    · split
      · exact kD_in h
      · omega
theorem kE_all {j : Int} (h0 : a ≤ j) (h1 : j < kE f stop a) : 97 ≤ f j ∧ f j ≤ 122 := by
  have := nRun_all (P := isS f stop) _ _ j h0 h1
  unfold isS at this
  rw [Bool.and_eq_true, Bool.and_eq_true, decide_eq_true_eq, decide_eq_true_eq, decide_eq_true_eq] at this
  exact this.2
theorem kD_all {j : Int} (h0 : a ≤ j) (h1 : j < kD f stop a) : 48 ≤ f j ∧ f j ≤ 57 := by
  have := nRun_all (P := isN f stop) _ _ j h0 h1
  unfold isN at this
  rw [Bool.and_eq_true, Bool.and_eq_true, decide_eq_true_eq, decide_eq_true_eq, decide_eq_true_eq] at this
  exact this.2
theorem cWd_congr : ∀ (m : Nat) (k sh v : Int), (∀ j, k ≤ j → j < k + m → f j = f' j) → cWd f m k sh v = cWd f' m k sh v := by
  intro m
  induction m with
  | zero => intro k sh v _; rfl
  | succ m ih =>
    intro k sh v h
    rw [cWd, cWd, h k (by omega) (by omega), ih _ _ _ (fun j j0 j1 => h j (by omega) (by omega))]
theorem cNum_congr : ∀ (m : Nat) (k v : Int), (∀ j, k ≤ j → j < k + m → f j = f' j) → cNum f m k v = cNum f' m k v := by
  intro m
  induction m with
  | zero => intro k v _; rfl
  | succ m ih =>
    intro k v h
    rw [cNum, cNum, h k (by omega) (by omega), ih _ _ (fun j j0 j1 => h j (by omega) (by omega))]
theorem cS_congr (h : ∀ i, 0 ≤ i → i < stop → f i = f' i) (h0 : 0 ≤ a) (h1 : a ≤ stop) : cS f stop a = cS f' stop a := by
  unfold cS
  by_cases c : a = stop
  · rw [if_pos c, if_pos c]
  · rw [isS_congr h h0, isN_congr h h0, kE_congr h h0, h a h0 (by omega)]
theorem cV_congr (h : ∀ i, 0 ≤ i → i < stop → f i = f' i) (h0 : 0 ≤ a) (h1 : a ≤ stop) {v : Int} : cV f stop a v = cV f' stop a v := by
  have e1 := kE_in (f := f') h1
  have d1 := kD_in (f := f') h1
  unfold cV
  rw [isS_congr h h0, isN_congr h h0, kE_congr h h0, kD_congr h h0, cWd_congr (f := f) (f' := f') _ _ _ _ (fun j j0 j1 => h j (by omega) (by omega)), cNum_congr (f := f) (f' := f') _ _ _ (fun j j0 j1 => h j (by omega) (by omega))]
theorem bv_nat {x : Int} (h : 0 ≤ x ∧ x < 2147483648) : (BitVec.ofInt 32 x).toNat = x.toNat := by
  rw [BitVec.toNat_ofInt]
  congr 1
  omega
theorem ior_add {x y : Int} (s X : Nat) (hx : x = ((X * 2 ^ s : Nat) : Int)) (hy : 0 ≤ y ∧ y < ((2 ^ s : Nat) : Int)) (hb : x + y < 2147483648) : ior32 x y = x + y := by
  have e : (BitVec.ofInt 32 x ||| BitVec.ofInt 32 y).toNat = x.toNat + y.toNat := by
    rw [BitVec.toNat_or, bv_nat (by omega), bv_nat (by omega), show x.toNat = X <<< s by rw [Nat.shiftLeft_eq]; omega, ← Nat.shiftLeft_add_eq_or_of_lt (by omega)]
  rw [ior32_bv, BitVec.toInt_eq_toNat_of_lt (by omega), e]
  omega
theorem shl_lit {x : Int} (s : Nat) (h : ishl32 x (s : Int) = ((BitVec.ofInt 32 x) <<< s).toInt) (h0 : 0 ≤ x) (hb : x * ((2 ^ s : Nat) : Int) < 2147483648) : ishl32 x (s : Int) = x * ((2 ^ s : Nat) : Int) := by
  have p : 0 < 2 ^ s := Nat.pow_pos (by omega)
  have x1 : x < 2147483648 := by
    have : x * 1 ≤ x * ((2 ^ s : Nat) : Int) := Int.mul_le_mul_of_nonneg_left (by omega) h0
    omega
  have ex : ((x.toNat * 2 ^ s : Nat) : Int) = x * ((2 ^ s : Nat) : Int) := by
    rw [Int.natCast_mul, Int.toNat_of_nonneg h0]
  have e : ((BitVec.ofInt 32 x) <<< s).toNat = x.toNat * 2 ^ s := by
    rw [BitVec.toNat_shiftLeft, bv_nat ⟨h0, x1⟩, Nat.shiftLeft_eq, Nat.mod_eq_of_lt (by omega)]
  rw [h, BitVec.toInt_eq_toNat_of_lt (by omega), e, ex]
theorem dg_in (h : ∀ j, a ≤ j → j < e → 97 ≤ f j ∧ f j ≤ 122) {i : Int} (h0 : 0 ≤ i) : 0 ≤ dg f a e i ∧ dg f a e i ≤ 26 ∧ (dg f a e i = 0 ↔ e ≤ a + i) := by
  unfold dg
  split
  · have := h (a + i) (by omega) (by omega)
    omega
  · omega
theorem pk_step {v l : Int} (hv : 0 ≤ v ∧ v < 33554432) (hl : 0 ≤ l ∧ l ≤ 26) : ior32 (ishl32 v 5) l = 32 * v + l := by
  have z := shl_lit (x := v) 5 rfl hv.1 (by show v * 32 < _; omega)
  rw [show ((5 : Nat) : Int) = 5 from rfl, show ((2 ^ 5 : Nat) : Int) = 32 from rfl] at z
  rw [z, ior_add (x := v * 32) 5 v.toNat (by show v * 32 = ((v.toNat * 32 : Nat) : Int); omega) (by show 0 ≤ l ∧ l < 32; omega) (by omega)]
  omega
theorem xPk_val (h : ∀ j, a ≤ j → j < e → 97 ≤ f j ∧ f j ≤ 122) : xPk f a e = 33554432 * dg f a e 0 + 1048576 * dg f a e 1 + 32768 * dg f a e 2 + 1024 * dg f a e 3 + 32 * dg f a e 4 + dg f a e 5 := by
  have d0 := dg_in h (i := 0) (by omega)
  have d1 := dg_in h (i := 1) (by omega)
  have d2 := dg_in h (i := 2) (by omega)
  have d3 := dg_in h (i := 3) (by omega)
  have d4 := dg_in h (i := 4) (by omega)
  have d5 := dg_in h (i := 5) (by omega)
  have u : ∀ i, (if a + i < e then f (a + i) - 96 else 0) = dg f a e i := fun i => rfl
  have u0 : (if a < e then f a - 96 else 0) = dg f a e 0 := by rw [← u 0, Int.add_zero]
  unfold xPk
  simp only [itF, Int.add_assoc, Int.reduceAdd, u, u0]
  have p0 : ior32 (ishl32 0 5) (dg f a e 0) = dg f a e 0 := by rw [pk_step (by omega) (by omega)]; omega
  have p1 : ior32 (ishl32 (dg f a e 0) 5) (dg f a e 1) = 32 * dg f a e 0 + dg f a e 1 := by rw [pk_step (by omega) (by omega)]
  have p2 : ior32 (ishl32 (32 * dg f a e 0 + dg f a e 1) 5) (dg f a e 2) = 1024 * dg f a e 0 + 32 * dg f a e 1 + dg f a e 2 := by rw [pk_step (by omega) (by omega)]; omega
  have p3 : ior32 (ishl32 (1024 * dg f a e 0 + 32 * dg f a e 1 + dg f a e 2) 5) (dg f a e 3) = 32768 * dg f a e 0 + 1024 * dg f a e 1 + 32 * dg f a e 2 + dg f a e 3 := by rw [pk_step (by omega) (by omega)]; omega
  have p4 : ior32 (ishl32 (32768 * dg f a e 0 + 1024 * dg f a e 1 + 32 * dg f a e 2 + dg f a e 3) 5) (dg f a e 4) = 1048576 * dg f a e 0 + 32768 * dg f a e 1 + 1024 * dg f a e 2 + 32 * dg f a e 3 + dg f a e 4 := by rw [pk_step (by omega) (by omega)]; omega
  have p5 : ior32 (ishl32 (1048576 * dg f a e 0 + 32768 * dg f a e 1 + 1024 * dg f a e 2 + 32 * dg f a e 3 + dg f a e 4) 5) (dg f a e 5) = 33554432 * dg f a e 0 + 1048576 * dg f a e 1 + 32768 * dg f a e 2 + 1024 * dg f a e 3 + 32 * dg f a e 4 + dg f a e 5 := by rw [pk_step (by omega) (by omega)]; omega
  rw [p0, p1, p2, p3, p4, p5]
  omega
theorem wd_step25 {v l : Int} (hv : ∃ V : Int, v = 1073741824 * V ∧ 0 ≤ V) (hb : v + 26 * 33554432 < 2147483648) (hl : 0 ≤ l ∧ l ≤ 26) : ior32 v (ishl32 l 25) = v + 33554432 * l := by
  obtain ⟨V, e, V0⟩ := hv
  have z := shl_lit (x := l) 25 rfl hl.1 (by show l * 33554432 < _; omega)
  rw [show ((25 : Nat) : Int) = 25 from rfl, show ((2 ^ 25 : Nat) : Int) = 33554432 from rfl] at z
  rw [z, ior_add 30 V.toNat (by show v = ((V.toNat * 1073741824 : Nat) : Int); omega) (by show 0 ≤ l * 33554432 ∧ l * 33554432 < 1073741824; omega) (by omega)]
  omega
theorem wd_step20 {v l : Int} (hv : ∃ V : Int, v = 33554432 * V ∧ 0 ≤ V) (hb : v + 26 * 1048576 < 2147483648) (hl : 0 ≤ l ∧ l ≤ 26) : ior32 v (ishl32 l 20) = v + 1048576 * l := by
  obtain ⟨V, e, V0⟩ := hv
  have z := shl_lit (x := l) 20 rfl hl.1 (by show l * 1048576 < _; omega)
  rw [show ((20 : Nat) : Int) = 20 from rfl, show ((2 ^ 20 : Nat) : Int) = 1048576 from rfl] at z
  rw [z, ior_add 25 V.toNat (by show v = ((V.toNat * 33554432 : Nat) : Int); omega) (by show 0 ≤ l * 1048576 ∧ l * 1048576 < 33554432; omega) (by omega)]
  omega
theorem wd_step15 {v l : Int} (hv : ∃ V : Int, v = 1048576 * V ∧ 0 ≤ V) (hb : v + 26 * 32768 < 2147483648) (hl : 0 ≤ l ∧ l ≤ 26) : ior32 v (ishl32 l 15) = v + 32768 * l := by
  obtain ⟨V, e, V0⟩ := hv
  have z := shl_lit (x := l) 15 rfl hl.1 (by show l * 32768 < _; omega)
  rw [show ((15 : Nat) : Int) = 15 from rfl, show ((2 ^ 15 : Nat) : Int) = 32768 from rfl] at z
  rw [z, ior_add 20 V.toNat (by show v = ((V.toNat * 1048576 : Nat) : Int); omega) (by show 0 ≤ l * 32768 ∧ l * 32768 < 1048576; omega) (by omega)]
  omega
theorem wd_step10 {v l : Int} (hv : ∃ V : Int, v = 32768 * V ∧ 0 ≤ V) (hb : v + 26 * 1024 < 2147483648) (hl : 0 ≤ l ∧ l ≤ 26) : ior32 v (ishl32 l 10) = v + 1024 * l := by
  obtain ⟨V, e, V0⟩ := hv
  have z := shl_lit (x := l) 10 rfl hl.1 (by show l * 1024 < _; omega)
  rw [show ((10 : Nat) : Int) = 10 from rfl, show ((2 ^ 10 : Nat) : Int) = 1024 from rfl] at z
  rw [z, ior_add 15 V.toNat (by show v = ((V.toNat * 32768 : Nat) : Int); omega) (by show 0 ≤ l * 1024 ∧ l * 1024 < 32768; omega) (by omega)]
  omega
theorem wd_step5 {v l : Int} (hv : ∃ V : Int, v = 1024 * V ∧ 0 ≤ V) (hb : v + 26 * 32 < 2147483648) (hl : 0 ≤ l ∧ l ≤ 26) : ior32 v (ishl32 l 5) = v + 32 * l := by
  obtain ⟨V, e, V0⟩ := hv
  have z := shl_lit (x := l) 5 rfl hl.1 (by show l * 32 < _; omega)
  rw [show ((5 : Nat) : Int) = 5 from rfl, show ((2 ^ 5 : Nat) : Int) = 32 from rfl] at z
  rw [z, ior_add 10 V.toNat (by show v = ((V.toNat * 1024 : Nat) : Int); omega) (by show 0 ≤ l * 32 ∧ l * 32 < 1024; omega) (by omega)]
  omega
theorem wd_step0 {v l : Int} (hv : ∃ V : Int, v = 32 * V ∧ 0 ≤ V) (hb : v + 26 * 1 < 2147483648) (hl : 0 ≤ l ∧ l ≤ 26) : ior32 v (ishl32 l 0) = v + 1 * l := by
  obtain ⟨V, e, V0⟩ := hv
  have z := shl_lit (x := l) 0 rfl hl.1 (by show l * 1 < _; omega)
  rw [show ((0 : Nat) : Int) = 0 from rfl, show ((2 ^ 0 : Nat) : Int) = 1 from rfl] at z
  rw [z, ior_add 5 V.toNat (by show v = ((V.toNat * 32 : Nat) : Int); omega) (by show 0 ≤ l * 1 ∧ l * 1 < 32; omega) (by omega)]
  omega
theorem cWd_val (h : ∀ j, a ≤ j → j < e → 97 ≤ f j ∧ f j ≤ 122) (h0 : a ≤ e) (h6 : e - a ≤ 6) : cWd f (e - a).toNat a 25 0 = 33554432 * dg f a e 0 + 1048576 * dg f a e 1 + 32768 * dg f a e 2 + 1024 * dg f a e 3 + 32 * dg f a e 4 + dg f a e 5 := by
  have d0 := dg_in h (i := 0) (by omega)
  have d1 := dg_in h (i := 1) (by omega)
  have d2 := dg_in h (i := 2) (by omega)
  have d3 := dg_in h (i := 3) (by omega)
  have d4 := dg_in h (i := 4) (by omega)
  have d5 := dg_in h (i := 5) (by omega)
  have u : ∀ i, 0 ≤ i → i < e - a → f (a + i) - 97 + 1 = dg f a e i := fun i i0 i1 => by unfold dg; rw [if_pos (by omega)]; omega
  have s25 : ∀ {l : Int}, 0 ≤ l ∧ l ≤ 26 → ior32 0 (ishl32 l 25) = 33554432 * l := fun hl => by rw [wd_step25 ⟨0, by omega, by omega⟩ (by omega) hl]; omega
  have c : e - a = 0 ∨ e - a = 1 ∨ e - a = 2 ∨ e - a = 3 ∨ e - a = 4 ∨ e - a = 5 ∨ e - a = 6 := by omega
  rcases c with c | c | c | c | c | c | c
  · rw [show (e - a).toNat = 0 by omega]
    rw [cWd]
    omega
  · rw [show (e - a).toNat = 1 by omega]
    have u0 : f a - 97 + 1 = dg f a e 0 := by
      have z := u 0 (by omega) (by omega)
      rw [Int.add_zero] at z
      exact z
    simp only [cWd, Int.reduceSub, Int.reduceLE, Int.reduceNeg, ↓reduceIte, Int.add_assoc, Int.reduceAdd, u0]
    rw [wd_step25 ⟨0, by omega, by omega⟩ (by omega) (by omega)]
    omega
  · rw [show (e - a).toNat = 2 by omega]
    have u0 : f a - 97 + 1 = dg f a e 0 := by
      have z := u 0 (by omega) (by omega)
      rw [Int.add_zero] at z
      exact z
    have u1 := u 1 (by omega) (by omega)
    simp only [cWd, Int.reduceSub, Int.reduceLE, Int.reduceNeg, ↓reduceIte, Int.add_assoc, Int.reduceAdd, u0, u1]
    rw [wd_step25 ⟨0, by omega, by omega⟩ (by omega) (by omega), wd_step20 ⟨dg f a e 0, by omega, by omega⟩ (by omega) (by omega)]
    omega
  · rw [show (e - a).toNat = 3 by omega]
    have u0 : f a - 97 + 1 = dg f a e 0 := by
      have z := u 0 (by omega) (by omega)
      rw [Int.add_zero] at z
      exact z
    have u1 := u 1 (by omega) (by omega)
    have u2 := u 2 (by omega) (by omega)
    simp only [cWd, Int.reduceSub, Int.reduceLE, Int.reduceNeg, ↓reduceIte, Int.add_assoc, Int.reduceAdd, u0, u1, u2]
    rw [wd_step25 ⟨0, by omega, by omega⟩ (by omega) (by omega), wd_step20 ⟨dg f a e 0, by omega, by omega⟩ (by omega) (by omega), wd_step15 ⟨32 * dg f a e 0 + dg f a e 1, by omega, by omega⟩ (by omega) (by omega)]
    omega
  · rw [show (e - a).toNat = 4 by omega]
    have u0 : f a - 97 + 1 = dg f a e 0 := by
      have z := u 0 (by omega) (by omega)
      rw [Int.add_zero] at z
      exact z
    have u1 := u 1 (by omega) (by omega)
    have u2 := u 2 (by omega) (by omega)
    have u3 := u 3 (by omega) (by omega)
    simp only [cWd, Int.reduceSub, Int.reduceLE, Int.reduceNeg, ↓reduceIte, Int.add_assoc, Int.reduceAdd, u0, u1, u2, u3]
    rw [wd_step25 ⟨0, by omega, by omega⟩ (by omega) (by omega), wd_step20 ⟨dg f a e 0, by omega, by omega⟩ (by omega) (by omega), wd_step15 ⟨32 * dg f a e 0 + dg f a e 1, by omega, by omega⟩ (by omega) (by omega), wd_step10 ⟨1024 * dg f a e 0 + 32 * dg f a e 1 + dg f a e 2, by omega, by omega⟩ (by omega) (by omega)]
    omega
  · rw [show (e - a).toNat = 5 by omega]
    have u0 : f a - 97 + 1 = dg f a e 0 := by
      have z := u 0 (by omega) (by omega)
      rw [Int.add_zero] at z
      exact z
    have u1 := u 1 (by omega) (by omega)
    have u2 := u 2 (by omega) (by omega)
    have u3 := u 3 (by omega) (by omega)
    have u4 := u 4 (by omega) (by omega)
    simp only [cWd, Int.reduceSub, Int.reduceLE, Int.reduceNeg, ↓reduceIte, Int.add_assoc, Int.reduceAdd, u0, u1, u2, u3, u4]
    rw [wd_step25 ⟨0, by omega, by omega⟩ (by omega) (by omega), wd_step20 ⟨dg f a e 0, by omega, by omega⟩ (by omega) (by omega), wd_step15 ⟨32 * dg f a e 0 + dg f a e 1, by omega, by omega⟩ (by omega) (by omega), wd_step10 ⟨1024 * dg f a e 0 + 32 * dg f a e 1 + dg f a e 2, by omega, by omega⟩ (by omega) (by omega), wd_step5 ⟨32768 * dg f a e 0 + 1024 * dg f a e 1 + 32 * dg f a e 2 + dg f a e 3, by omega, by omega⟩ (by omega) (by omega)]
    omega
  · rw [show (e - a).toNat = 6 by omega]
    have u0 : f a - 97 + 1 = dg f a e 0 := by
      have z := u 0 (by omega) (by omega)
      rw [Int.add_zero] at z
      exact z
    have u1 := u 1 (by omega) (by omega)
    have u2 := u 2 (by omega) (by omega)
    have u3 := u 3 (by omega) (by omega)
    have u4 := u 4 (by omega) (by omega)
    have u5 := u 5 (by omega) (by omega)
    simp only [cWd, Int.reduceSub, Int.reduceLE, Int.reduceNeg, ↓reduceIte, Int.add_assoc, Int.reduceAdd, u0, u1, u2, u3, u4, u5]
    rw [wd_step25 ⟨0, by omega, by omega⟩ (by omega) (by omega), wd_step20 ⟨dg f a e 0, by omega, by omega⟩ (by omega) (by omega), wd_step15 ⟨32 * dg f a e 0 + dg f a e 1, by omega, by omega⟩ (by omega) (by omega), wd_step10 ⟨1024 * dg f a e 0 + 32 * dg f a e 1 + dg f a e 2, by omega, by omega⟩ (by omega) (by omega), wd_step5 ⟨32768 * dg f a e 0 + 1024 * dg f a e 1 + 32 * dg f a e 2 + dg f a e 3, by omega, by omega⟩ (by omega) (by omega), wd_step0 ⟨1048576 * dg f a e 0 + 32768 * dg f a e 1 + 1024 * dg f a e 2 + 32 * dg f a e 3 + dg f a e 4, by omega, by omega⟩ (by omega) (by omega)]
    omega
theorem wdM_iff {s n : Int} : wdM f a e s n = true ↔ n = e - a ∧ ∀ i, 0 ≤ i → i < n → wdr.getD (s + i).toNat 0 = f (a + i) := by
  unfold wdM
  rw [Bool.and_eq_true, decide_eq_true_eq, Bool.not_eq_true', ← Bool.not_eq_true, anyF_iff]
  constructor
  · rintro ⟨h1, h2⟩
    refine ⟨h1, fun i i0 i1 => ?_⟩
    apply Classical.byContradiction
    intro z
    exact h2 ⟨i, i0, by omega, by rw [decide_eq_true_eq]; exact z⟩
  · rintro ⟨h1, h2⟩
    refine ⟨h1, ?_⟩
    rintro ⟨i, i0, i1, i2⟩
    rw [decide_eq_true_eq] at i2
    exact i2 (h2 i i0 (by omega))
theorem wd_is0 (h : ∀ j, a ≤ j → j < e → 97 ≤ f j ∧ f j ≤ 122) (h0 : a ≤ e) (h6 : e - a ≤ 6) : wdM f a e 0 6 = true ↔ xPk f a e = 86282469 := by
  have v := xPk_val h
  have d0 := dg_in h (i := 0) (by omega)
  have d1 := dg_in h (i := 1) (by omega)
  have d2 := dg_in h (i := 2) (by omega)
  have d3 := dg_in h (i := 3) (by omega)
  have d4 := dg_in h (i := 4) (by omega)
  have d5 := dg_in h (i := 5) (by omega)
  have u : ∀ i, i < e - a → dg f a e i = f (a + i) - 96 := fun i i1 => by unfold dg; rw [if_pos (by omega)]
  rw [wdM_iff]
  constructor
  · rintro ⟨n, c⟩
    have c0 : (98 : Int) = f (a + 0) := c 0 (by omega) (by omega)
    have u0 := u 0 (by omega)
    have c1 : (114 : Int) = f (a + 1) := c 1 (by omega) (by omega)
    have u1 := u 1 (by omega)
    have c2 : (105 : Int) = f (a + 2) := c 2 (by omega) (by omega)
    have u2 := u 2 (by omega)
    have c3 : (100 : Int) = f (a + 3) := c 3 (by omega) (by omega)
    have u3 := u 3 (by omega)
    have c4 : (103 : Int) = f (a + 4) := c 4 (by omega) (by omega)
    have u4 := u 4 (by omega)
    have c5 : (101 : Int) = f (a + 5) := c 5 (by omega) (by omega)
    have u5 := u 5 (by omega)
    omega
  · intro p
    have n : 6 = e - a := by omega
    refine ⟨n, fun i i0 i1 => ?_⟩
    have u0 := u 0 (by omega)
    have u1 := u 1 (by omega)
    have u2 := u 2 (by omega)
    have u3 := u 3 (by omega)
    have u4 := u 4 (by omega)
    have u5 := u 5 (by omega)
    have c : i = 0 ∨ i = 1 ∨ i = 2 ∨ i = 3 ∨ i = 4 ∨ i = 5 := by omega
    rcases c with rfl | rfl | rfl | rfl | rfl | rfl
    · show (98 : Int) = _
      omega
    · show (114 : Int) = _
      omega
    · show (105 : Int) = _
      omega
    · show (100 : Int) = _
      omega
    · show (103 : Int) = _
      omega
    · show (101 : Int) = _
      omega
theorem wd_is1 (h : ∀ j, a ≤ j → j < e → 97 ≤ f j ∧ f j ≤ 122) (h0 : a ≤ e) (h6 : e - a ≤ 6) : wdM f a e 7 6 = true ↔ xPk f a e = 140190821 := by
  have v := xPk_val h
  have d0 := dg_in h (i := 0) (by omega)
  have d1 := dg_in h (i := 1) (by omega)
  have d2 := dg_in h (i := 2) (by omega)
  have d3 := dg_in h (i := 3) (by omega)
  have d4 := dg_in h (i := 4) (by omega)
  have d5 := dg_in h (i := 5) (by omega)
  have u : ∀ i, i < e - a → dg f a e i = f (a + i) - 96 := fun i i1 => by unfold dg; rw [if_pos (by omega)]
  rw [wdM_iff]
  constructor
  · rintro ⟨n, c⟩
    have c0 : (100 : Int) = f (a + 0) := c 0 (by omega) (by omega)
    have u0 := u 0 (by omega)
    have c1 : (101 : Int) = f (a + 1) := c 1 (by omega) (by omega)
    have u1 := u 1 (by omega)
    have c2 : (118 : Int) = f (a + 2) := c 2 (by omega) (by omega)
    have u2 := u 2 (by omega)
    have c3 : (105 : Int) = f (a + 3) := c 3 (by omega) (by omega)
    have u3 := u 3 (by omega)
    have c4 : (99 : Int) = f (a + 4) := c 4 (by omega) (by omega)
    have u4 := u 4 (by omega)
    have c5 : (101 : Int) = f (a + 5) := c 5 (by omega) (by omega)
    have u5 := u 5 (by omega)
    omega
  · intro p
    have n : 6 = e - a := by omega
    refine ⟨n, fun i i0 i1 => ?_⟩
    have u0 := u 0 (by omega)
    have u1 := u 1 (by omega)
    have u2 := u 2 (by omega)
    have u3 := u 3 (by omega)
    have u4 := u 4 (by omega)
    have u5 := u 5 (by omega)
    have c : i = 0 ∨ i = 1 ∨ i = 2 ∨ i = 3 ∨ i = 4 ∨ i = 5 := by omega
    rcases c with rfl | rfl | rfl | rfl | rfl | rfl
    · show (100 : Int) = _
      omega
    · show (101 : Int) = _
      omega
    · show (118 : Int) = _
      omega
    · show (105 : Int) = _
      omega
    · show (99 : Int) = _
      omega
    · show (101 : Int) = _
      omega
theorem wd_is2 (h : ∀ j, a ≤ j → j < e → 97 ≤ f j ∧ f j ≤ 122) (h0 : a ≤ e) (h6 : e - a ≤ 6) : wdM f a e 14 5 = true ↔ xPk f a e = 46433888 := by
  have v := xPk_val h
  have d0 := dg_in h (i := 0) (by omega)
  have d1 := dg_in h (i := 1) (by omega)
  have d2 := dg_in h (i := 2) (by omega)
  have d3 := dg_in h (i := 3) (by omega)
  have d4 := dg_in h (i := 4) (by omega)
  have d5 := dg_in h (i := 5) (by omega)
  have u : ∀ i, i < e - a → dg f a e i = f (a + i) - 96 := fun i i1 => by unfold dg; rw [if_pos (by omega)]
  rw [wdM_iff]
  constructor
  · rintro ⟨n, c⟩
    have c0 : (97 : Int) = f (a + 0) := c 0 (by omega) (by omega)
    have u0 := u 0 (by omega)
    have c1 : (108 : Int) = f (a + 1) := c 1 (by omega) (by omega)
    have u1 := u 1 (by omega)
    have c2 : (105 : Int) = f (a + 2) := c 2 (by omega) (by omega)
    have u2 := u 2 (by omega)
    have c3 : (97 : Int) = f (a + 3) := c 3 (by omega) (by omega)
    have u3 := u 3 (by omega)
    have c4 : (115 : Int) = f (a + 4) := c 4 (by omega) (by omega)
    have u4 := u 4 (by omega)
    omega
  · intro p
    have n : 5 = e - a := by omega
    refine ⟨n, fun i i0 i1 => ?_⟩
    have u0 := u 0 (by omega)
    have u1 := u 1 (by omega)
    have u2 := u 2 (by omega)
    have u3 := u 3 (by omega)
    have u4 := u 4 (by omega)
    have c : i = 0 ∨ i = 1 ∨ i = 2 ∨ i = 3 ∨ i = 4 := by omega
    rcases c with rfl | rfl | rfl | rfl | rfl
    · show (97 : Int) = _
      omega
    · show (108 : Int) = _
      omega
    · show (105 : Int) = _
      omega
    · show (97 : Int) = _
      omega
    · show (115 : Int) = _
      omega
theorem wd_is3 (h : ∀ j, a ≤ j → j < e → 97 ≤ f j ∧ f j ≤ 122) (h0 : a ≤ e) (h6 : e - a ≤ 6) : wdM f a e 20 4 = true ↔ xPk f a e = 654358528 := by
  have v := xPk_val h
  have d0 := dg_in h (i := 0) (by omega)
  have d1 := dg_in h (i := 1) (by omega)
  have d2 := dg_in h (i := 2) (by omega)
  have d3 := dg_in h (i := 3) (by omega)
  have d4 := dg_in h (i := 4) (by omega)
  have d5 := dg_in h (i := 5) (by omega)
  have u : ∀ i, i < e - a → dg f a e i = f (a + i) - 96 := fun i i1 => by unfold dg; rw [if_pos (by omega)]
  rw [wdM_iff]
  constructor
  · rintro ⟨n, c⟩
    have c0 : (115 : Int) = f (a + 0) := c 0 (by omega) (by omega)
    have u0 := u 0 (by omega)
    have c1 : (112 : Int) = f (a + 1) := c 1 (by omega) (by omega)
    have u1 := u 1 (by omega)
    have c2 : (97 : Int) = f (a + 2) := c 2 (by omega) (by omega)
    have u2 := u 2 (by omega)
    have c3 : (110 : Int) = f (a + 3) := c 3 (by omega) (by omega)
    have u3 := u 3 (by omega)
    omega
  · intro p
    have n : 4 = e - a := by omega
    refine ⟨n, fun i i0 i1 => ?_⟩
    have u0 := u 0 (by omega)
    have u1 := u 1 (by omega)
    have u2 := u 2 (by omega)
    have u3 := u 3 (by omega)
    have c : i = 0 ∨ i = 1 ∨ i = 2 ∨ i = 3 := by omega
    rcases c with rfl | rfl | rfl | rfl
    · show (115 : Int) = _
      omega
    · show (112 : Int) = _
      omega
    · show (97 : Int) = _
      omega
    · show (110 : Int) = _
      omega
theorem wd_is4 (h : ∀ j, a ≤ j → j < e → 97 ≤ f j ∧ f j ≤ 122) (h0 : a ≤ e) (h6 : e - a ≤ 6) : wdM f a e 25 5 = true ↔ xPk f a e = 658551168 := by
  have v := xPk_val h
  have d0 := dg_in h (i := 0) (by omega)
  have d1 := dg_in h (i := 1) (by omega)
  have d2 := dg_in h (i := 2) (by omega)
  have d3 := dg_in h (i := 3) (by omega)
  have d4 := dg_in h (i := 4) (by omega)
  have d5 := dg_in h (i := 5) (by omega)
  have u : ∀ i, i < e - a → dg f a e i = f (a + i) - 96 := fun i i1 => by unfold dg; rw [if_pos (by omega)]
  rw [wdM_iff]
  constructor
  · rintro ⟨n, c⟩
    have c0 : (115 : Int) = f (a + 0) := c 0 (by omega) (by omega)
    have u0 := u 0 (by omega)
    have c1 : (116 : Int) = f (a + 1) := c 1 (by omega) (by omega)
    have u1 := u 1 (by omega)
    have c2 : (97 : Int) = f (a + 2) := c 2 (by omega) (by omega)
    have u2 := u 2 (by omega)
    have c3 : (108 : Int) = f (a + 3) := c 3 (by omega) (by omega)
    have u3 := u 3 (by omega)
    have c4 : (108 : Int) = f (a + 4) := c 4 (by omega) (by omega)
    have u4 := u 4 (by omega)
    omega
  · intro p
    have n : 5 = e - a := by omega
    refine ⟨n, fun i i0 i1 => ?_⟩
    have u0 := u 0 (by omega)
    have u1 := u 1 (by omega)
    have u2 := u 2 (by omega)
    have u3 := u 3 (by omega)
    have u4 := u 4 (by omega)
    have c : i = 0 ∨ i = 1 ∨ i = 2 ∨ i = 3 ∨ i = 4 := by omega
    rcases c with rfl | rfl | rfl | rfl | rfl
    · show (115 : Int) = _
      omega
    · show (116 : Int) = _
      omega
    · show (97 : Int) = _
      omega
    · show (108 : Int) = _
      omega
    · show (108 : Int) = _
      omega
theorem wd_is5 (h : ∀ j, a ≤ j → j < e → 97 ≤ f j ∧ f j ≤ 122) (h0 : a ≤ e) (h6 : e - a ≤ 6) : wdM f a e 31 4 = true ↔ xPk f a e = 620213248 := by
  have v := xPk_val h
  have d0 := dg_in h (i := 0) (by omega)
  have d1 := dg_in h (i := 1) (by omega)
  have d2 := dg_in h (i := 2) (by omega)
  have d3 := dg_in h (i := 3) (by omega)
  have d4 := dg_in h (i := 4) (by omega)
  have d5 := dg_in h (i := 5) (by omega)
  have u : ∀ i, i < e - a → dg f a e i = f (a + i) - 96 := fun i i1 => by unfold dg; rw [if_pos (by omega)]
  rw [wdM_iff]
  constructor
  · rintro ⟨n, c⟩
    have c0 : (114 : Int) = f (a + 0) := c 0 (by omega) (by omega)
    have u0 := u 0 (by omega)
    have c1 : (111 : Int) = f (a + 1) := c 1 (by omega) (by omega)
    have u1 := u 1 (by omega)
    have c2 : (111 : Int) = f (a + 2) := c 2 (by omega) (by omega)
    have u2 := u 2 (by omega)
    have c3 : (109 : Int) = f (a + 3) := c 3 (by omega) (by omega)
    have u3 := u 3 (by omega)
    omega
  · intro p
    have n : 4 = e - a := by omega
    refine ⟨n, fun i i0 i1 => ?_⟩
    have u0 := u 0 (by omega)
    have u1 := u 1 (by omega)
    have u2 := u 2 (by omega)
    have u3 := u 3 (by omega)
    have c : i = 0 ∨ i = 1 ∨ i = 2 ∨ i = 3 := by omega
    rcases c with rfl | rfl | rfl | rfl
    · show (114 : Int) = _
      omega
    · show (111 : Int) = _
      omega
    · show (111 : Int) = _
      omega
    · show (109 : Int) = _
      omega
theorem wd_is6 (h : ∀ j, a ≤ j → j < e → 97 ≤ f j ∧ f j ≤ 122) (h0 : a ≤ e) (h6 : e - a ≤ 6) : wdM f a e 36 4 = true ↔ xPk f a e = 642945024 := by
  have v := xPk_val h
  have d0 := dg_in h (i := 0) (by omega)
  have d1 := dg_in h (i := 1) (by omega)
  have d2 := dg_in h (i := 2) (by omega)
  have d3 := dg_in h (i := 3) (by omega)
  have d4 := dg_in h (i := 4) (by omega)
  have d5 := dg_in h (i := 5) (by omega)
  have u : ∀ i, i < e - a → dg f a e i = f (a + i) - 96 := fun i i1 => by unfold dg; rw [if_pos (by omega)]
  rw [wdM_iff]
  constructor
  · rintro ⟨n, c⟩
    have c0 : (115 : Int) = f (a + 0) := c 0 (by omega) (by omega)
    have u0 := u 0 (by omega)
    have c1 : (101 : Int) = f (a + 1) := c 1 (by omega) (by omega)
    have u1 := u 1 (by omega)
    have c2 : (101 : Int) = f (a + 2) := c 2 (by omega) (by omega)
    have u2 := u 2 (by omega)
    have c3 : (100 : Int) = f (a + 3) := c 3 (by omega) (by omega)
    have u3 := u 3 (by omega)
    omega
  · intro p
    have n : 4 = e - a := by omega
    refine ⟨n, fun i i0 i1 => ?_⟩
    have u0 := u 0 (by omega)
    have u1 := u 1 (by omega)
    have u2 := u 2 (by omega)
    have u3 := u 3 (by omega)
    have c : i = 0 ∨ i = 1 ∨ i = 2 ∨ i = 3 := by omega
    rcases c with rfl | rfl | rfl | rfl
    · show (115 : Int) = _
      omega
    · show (101 : Int) = _
      omega
    · show (101 : Int) = _
      omega
    · show (100 : Int) = _
      omega
theorem wd_is7 (h : ∀ j, a ≤ j → j < e → 97 ≤ f j ∧ f j ≤ 122) (h0 : a ≤ e) (h6 : e - a ≤ 6) : wdM f a e 41 4 = true ↔ xPk f a e = 620220416 := by
  have v := xPk_val h
  have d0 := dg_in h (i := 0) (by omega)
  have d1 := dg_in h (i := 1) (by omega)
  have d2 := dg_in h (i := 2) (by omega)
  have d3 := dg_in h (i := 3) (by omega)
  have d4 := dg_in h (i := 4) (by omega)
  have d5 := dg_in h (i := 5) (by omega)
  have u : ∀ i, i < e - a → dg f a e i = f (a + i) - 96 := fun i i1 => by unfold dg; rw [if_pos (by omega)]
  rw [wdM_iff]
  constructor
  · rintro ⟨n, c⟩
    have c0 : (114 : Int) = f (a + 0) := c 0 (by omega) (by omega)
    have u0 := u 0 (by omega)
    have c1 : (111 : Int) = f (a + 1) := c 1 (by omega) (by omega)
    have u1 := u 1 (by omega)
    have c2 : (111 : Int) = f (a + 2) := c 2 (by omega) (by omega)
    have u2 := u 2 (by omega)
    have c3 : (116 : Int) = f (a + 3) := c 3 (by omega) (by omega)
    have u3 := u 3 (by omega)
    omega
  · intro p
    have n : 4 = e - a := by omega
    refine ⟨n, fun i i0 i1 => ?_⟩
    have u0 := u 0 (by omega)
    have u1 := u 1 (by omega)
    have u2 := u 2 (by omega)
    have u3 := u 3 (by omega)
    have c : i = 0 ∨ i = 1 ∨ i = 2 ∨ i = 3 := by omega
    rcases c with rfl | rfl | rfl | rfl
    · show (114 : Int) = _
      omega
    · show (111 : Int) = _
      omega
    · show (111 : Int) = _
      omega
    · show (116 : Int) = _
      omega
theorem num_rel : ∀ (m : Nat) (k v w : Int), (∀ j, k ≤ j → j < k + m → 48 ≤ f j ∧ f j ≤ 57) → (0 ≤ v ∧ v ≤ 999999 ∧ w = v) ∨ (99999 < v ∧ 99999 < w ∧ v ≤ 1000000) → 0 ≤ tNum f m k w ∧ ((cNum f m k v = tNum f m k w) ∨ (99999 < cNum f m k v ∧ 99999 < tNum f m k w)) := by
  intro m
  induction m with
  | zero =>
    intro k v w _ h
    rw [cNum, tNum]
    omega
  | succ m ih =>
    intro k v w hf h
    rw [cNum, tNum]
    have hk := hf k (by omega) (by omega)
    have hf' : ∀ j, k + 1 ≤ j → j < k + 1 + m → 48 ≤ f j ∧ f j ≤ 57 := fun j j0 j1 => hf j (by omega) (by omega)
    refine ih (k + 1) _ _ hf' ?_
    unfold imin
    split <;> split <;> omega
theorem tok_rel {old1 old2 : Int} (h0 : 0 ≤ a) (h1 : a ≤ stop) : tokR (cS f stop a) (cV f stop a old1) (kK f stop a) (kW f stop a old2) := by
  unfold tokR cS cV kK kW
  by_cases c0 : a = stop
  · rw [if_pos c0, if_pos c0]
    exact Or.inl ⟨rfl, rfl⟩
  · rw [if_neg c0, if_neg c0, if_neg c0, if_neg c0]
    by_cases c1 : isS f stop a = true
    · rw [if_pos c1, if_pos c1, if_pos c1, if_pos c1]
      have e1 := kE_in (f := f) h1
      have al : ∀ j, a ≤ j → j < kE f stop a → 97 ≤ f j ∧ f j ≤ 122 := fun j j0 j1 => kE_all j0 j1
      generalize kE f stop a = e at *
      by_cases c2 : 6 < e - a
      · have no : ∀ s n : Int, n ≤ 6 → wdM f a e s n = false := fun s n hn => by
          unfold wdM
          rw [decide_eq_false (by omega), Bool.false_and]
        have x : xWd f a e = -1 := by
          unfold xWd
          rw [no _ _ (by omega), no _ _ (by omega), no _ _ (by omega), no _ _ (by omega), no _ _ (by omega), no _ _ (by omega), no _ _ (by omega), no _ _ (by omega)]
          rfl
        rw [x, if_pos c2, if_neg (by omega), if_pos c2]
        exact Or.inr (Or.inr (Or.inr (Or.inr (Or.inr ⟨rfl, rfl⟩))))
      · rw [if_neg c2, cWd_val al e1.1 (by omega), ← xPk_val al]
        have w0 := wd_is0 al e1.1 (by omega)
        have w1 := wd_is1 al e1.1 (by omega)
        have w2 := wd_is2 al e1.1 (by omega)
        have w3 := wd_is3 al e1.1 (by omega)
        have w4 := wd_is4 al e1.1 (by omega)
        have w5 := wd_is5 al e1.1 (by omega)
        have w6 := wd_is6 al e1.1 (by omega)
        have w7 := wd_is7 al e1.1 (by omega)
        unfold xWd
        by_cases q0 : wdM f a e 0 6 = true
        · simp only [if_pos q0]
          rw [if_pos (by omega), if_pos (by omega)]
          exact Or.inr (Or.inl ⟨by trivial, by trivial, by omega, w0.mp q0⟩)
        by_cases q1 : wdM f a e 7 6 = true
        · simp only [if_neg q0, if_pos q1]
          rw [if_pos (by omega), if_pos (by omega)]
          exact Or.inr (Or.inl ⟨by trivial, by trivial, by omega, w1.mp q1⟩)
        by_cases q2 : wdM f a e 14 5 = true
        · simp only [if_neg q0, if_neg q1, if_pos q2]
          rw [if_pos (by omega), if_pos (by omega)]
          exact Or.inr (Or.inl ⟨by trivial, by trivial, by omega, w2.mp q2⟩)
        by_cases q3 : wdM f a e 20 4 = true
        · simp only [if_neg q0, if_neg q1, if_neg q2, if_pos q3]
          rw [if_pos (by omega), if_pos (by omega)]
          exact Or.inr (Or.inl ⟨by trivial, by trivial, by omega, w3.mp q3⟩)
        by_cases q4 : wdM f a e 25 5 = true
        · simp only [if_neg q0, if_neg q1, if_neg q2, if_neg q3, if_pos q4]
          rw [if_pos (by omega), if_pos (by omega)]
          exact Or.inr (Or.inl ⟨by trivial, by trivial, by omega, w4.mp q4⟩)
        by_cases q5 : wdM f a e 31 4 = true
        · simp only [if_neg q0, if_neg q1, if_neg q2, if_neg q3, if_neg q4, if_pos q5]
          rw [if_pos (by omega), if_pos (by omega)]
          exact Or.inr (Or.inl ⟨by trivial, by trivial, by omega, w5.mp q5⟩)
        by_cases q6 : wdM f a e 36 4 = true
        · simp only [if_neg q0, if_neg q1, if_neg q2, if_neg q3, if_neg q4, if_neg q5, if_pos q6]
          rw [if_pos (by omega), if_pos (by omega)]
          exact Or.inr (Or.inl ⟨by trivial, by trivial, by omega, w6.mp q6⟩)
        by_cases q7 : wdM f a e 41 4 = true
        · simp only [if_neg q0, if_neg q1, if_neg q2, if_neg q3, if_neg q4, if_neg q5, if_neg q6, if_pos q7]
          rw [if_pos (by omega), if_pos (by omega)]
          exact Or.inr (Or.inl ⟨by trivial, by trivial, by omega, w7.mp q7⟩)
        simp only [if_neg q0, if_neg q1, if_neg q2, if_neg q3, if_neg q4, if_neg q5, if_neg q6, if_neg q7]
        simp only [show ¬ (0 : Int) ≤ -1 by omega, if_false, if_neg c2]
        refine Or.inr (Or.inr (Or.inl ⟨by trivial, by trivial, by trivial, fun i i0 i7 => ?_⟩))
        have c : i = 0 ∨ i = 1 ∨ i = 2 ∨ i = 3 ∨ i = 4 ∨ i = 5 ∨ i = 6 ∨ i = 7 := by omega
        rcases c with rfl | rfl | rfl | rfl | rfl | rfl | rfl | rfl
        · exact fun z => q0 (w0.mpr z)
        · exact fun z => q1 (w1.mpr z)
        · exact fun z => q2 (w2.mpr z)
        · exact fun z => q3 (w3.mpr z)
        · exact fun z => q4 (w4.mpr z)
        · exact fun z => q5 (w5.mpr z)
        · exact fun z => q6 (w6.mpr z)
        · exact fun z => q7 (w7.mpr z)
    · rw [if_neg c1, if_neg c1, if_neg c1, if_neg c1]
      by_cases c2 : isN f stop a = true
      · rw [if_pos c2, if_pos c2, if_pos c2, if_pos c2]
        have d1 := kD_in (f := f) h1
        refine Or.inr (Or.inr (Or.inr (Or.inl ⟨rfl, rfl, num_rel _ _ _ _ (fun j j0 j1 => kD_all (stop := stop) j0 (by omega)) (Or.inl (by omega))⟩)))
      · rw [if_neg c2, if_neg c2, if_neg c2, if_neg c2]
        by_cases c3 : f a = 59
        · rw [if_pos c3, if_pos c3]
          exact Or.inr (Or.inr (Or.inr (Or.inr (Or.inl ⟨rfl, rfl⟩))))
        · rw [if_neg c3, if_neg c3]
          exact Or.inr (Or.inr (Or.inr (Or.inr (Or.inr ⟨rfl, rfl⟩))))
theorem stop_next (h : cS f stop a = 3) : kN f stop a = a + 1 := by
  unfold cS at h
  unfold kN
  by_cases c0 : a = stop
  · rw [if_pos c0] at h; omega
  · rw [if_neg c0] at h ⊢
    by_cases c1 : isS f stop a = true
    · rw [if_pos c1] at h
      split at h <;> omega
    · rw [if_neg c1] at h ⊢
      by_cases c2 : isN f stop a = true
      · rw [if_pos c2] at h; omega
      · rw [if_neg c2]
end TOK
