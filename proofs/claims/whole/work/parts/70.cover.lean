/-! what is answered in the check is what is covered in the class -/
section COVER
variable {T T' : Int → Int} {d p : Int}
theorem tOb_eq {f : Int} (hd : 0 ≤ d ∧ d < 4) (hp : 0 ≤ p ∧ p < 64) : (iand32 (ishr32 (T (1152 + 8 * f + (64 * d + p) / 32)) ((64 * d + p) % 32)) 1 = 0) = (tOb T f (64 * d + p) = false) := by
  unfold tOb
  rw [bt_test (by omega)]
  cases bt (T (1152 + 8 * f + (64 * d + p) / 32)) ((64 * d + p) % 32).toNat <;> simp
theorem tAn1_at {f : Int} (hd : 0 ≤ d ∧ d < 4) (hp : 0 ≤ p ∧ p < 64) (hf : 0 ≤ f ∧ f < 64) : tAn1 d p f T = if tOb T f (64 * d + p) = false then T else tS (tS T (1152 + 8 * f + (64 * d + p) / 32) (iand32 (T (1152 + 8 * f + (64 * d + p) / 32)) (ixor32 (ishl32 1 ((64 * d + p) % 32)) (-1)))) (1088 + f) (T 1810) := by
  unfold tAn1
  simp only [tOb_eq hd hp]
theorem tAn1_ob {f f' i : Int} (hd : 0 ≤ d ∧ d < 4) (hp : 0 ≤ p ∧ p < 64) (hf : 0 ≤ f ∧ f < 64) (hf' : 0 ≤ f' ∧ f' < 64) (hi : 0 ≤ i ∧ i < 256) : tOb (tAn1 d p f T) f' i = (tOb T f' i && !(decide (f' = f) && decide (i = 64 * d + p))) := by
  rw [tAn1_at hd hp hf]
  by_cases q : tOb T f (64 * d + p) = false
  · rw [if_pos q]
    by_cases c : f' = f ∧ i = 64 * d + p
    · rw [c.1, c.2, q]; rfl
    · have : (decide (f' = f) && decide (i = 64 * d + p)) = false := by
        by_cases c1 : f' = f
        · rw [decide_eq_false (show ¬ i = 64 * d + p from fun z => c ⟨c1, z⟩), Bool.and_false]
        · rw [decide_eq_false c1, Bool.false_and]
      rw [this, Bool.not_false, Bool.and_true]
  · rw [if_neg q]
    unfold tOb
    by_cases c : f' = f ∧ i / 32 = (64 * d + p) / 32
    · rw [tS_ne (by omega), c.1, c.2, tS_same, bt_and, bt_xor, bt_shl (by omega) (by omega), bt_m1 (by omega), Bool.xor_true, decide_eq_true (show f = f from rfl), Bool.true_and]
      congr 2
      exact decide_eq_decide.mpr (by omega)
    · rw [tS_ne (by omega), tS_ne (by omega)]
      have : (decide (f' = f) && decide (i = 64 * d + p)) = false := by
        by_cases c1 : f' = f
        · rw [decide_eq_false (show ¬ i = 64 * d + p from fun z => c ⟨c1, by rw [z]⟩), Bool.and_false]
        · rw [decide_eq_false c1, Bool.false_and]
      rw [this, Bool.not_false, Bool.and_true]
theorem tAn1_since {f f' : Int} (hd : 0 ≤ d ∧ d < 4) (hp : 0 ≤ p ∧ p < 64) (hf : 0 ≤ f ∧ f < 64) (hf' : 0 ≤ f' ∧ f' < 64) : tAn1 d p f T (1088 + f') = if f' = f ∧ tOb T f (64 * d + p) = true then T 1810 else T (1088 + f') := by
  rw [tAn1_at hd hp hf]
  by_cases q : tOb T f (64 * d + p) = false
  · rw [if_pos q, if_neg (fun z => by rw [q] at z; exact Bool.noConfusion z.2)]
  · rw [if_neg q]
    have q' : tOb T f (64 * d + p) = true := by simpa using q
    by_cases c : f' = f
    · rw [if_pos ⟨c, q'⟩, c, tS_same]
    · rw [if_neg (fun z => c z.1), tS_ne (by omega), tS_ne (by omega)]
theorem tAn1_in {f : Int} (hd : 0 ≤ d ∧ d < 4) (hp : 0 ≤ p ∧ p < 64) (hf : 0 ≤ f ∧ f < 64) (h : tOin T) : tOin (tAn1 d p f T) := by
  intro f' w f0 f1 w0 w1
  rw [tAn1_at hd hp hf]
  split
  · exact h f' w f0 f1 w0 w1
  · rw [tS_ne (by omega)]
    by_cases c : 1152 + 8 * f' + w = 1152 + 8 * f + (64 * d + p) / 32
    · rw [c, tS_same]; exact in32_and
    · rw [tS_ne c]; exact h f' w f0 f1 w0 w1
theorem tAnsL (hd : 0 ≤ d ∧ d < 4) (hp : 0 ≤ p ∧ p < 64) : ∀ (n : Nat) (k : Int) (T : Int → Int), 0 ≤ k → k + n ≤ 64 → tOin T →
    tOin (itF (fun f T => tAn1 d p f T) k n T) ∧ (∀ j, 1664 ≤ j ∨ j < 1088 → itF (fun f T => tAn1 d p f T) k n T j = T j) ∧
    (∀ f i, 0 ≤ f → f < 64 → 0 ≤ i → i < 256 → tOb (itF (fun f T => tAn1 d p f T) k n T) f i = (tOb T f i && !(decide (k ≤ f ∧ f < k + n) && decide (i = 64 * d + p)))) ∧
    (∀ f, 0 ≤ f → f < 64 → itF (fun f T => tAn1 d p f T) k n T (1088 + f) = if (k ≤ f ∧ f < k + n) ∧ tOb T f (64 * d + p) = true then T 1810 else T (1088 + f)) := by
  intro n
  induction n with
  | zero =>
    intro k T k0 k1 h
    refine ⟨h, fun _ _ => rfl, fun f i f0 f1 i0 i1 => ?_, fun f f0 f1 => ?_⟩
    · rw [itF, decide_eq_false (show ¬ (k ≤ f ∧ f < k + (0 : Nat)) by omega), Bool.false_and, Bool.not_false, Bool.and_true]
    · rw [itF, if_neg (by omega)]
  | succ n ih =>
    intro k T k0 k1 h
    have hk : 0 ≤ k ∧ k < 64 := by omega
    obtain ⟨a1, a2, a3, a4⟩ := ih (k + 1) (tAn1 d p k T) (by omega) (by omega) (tAn1_in hd hp hk h)
    have lo : ∀ j, 1664 ≤ j ∨ j < 1088 → tAn1 d p k T j = T j := fun j hj => tAn1_1810 hk hd hp hj
    refine ⟨a1, fun j hj => by rw [itF, a2 j hj, lo j hj], fun f i f0 f1 i0 i1 => ?_, fun f f0 f1 => ?_⟩
    · rw [itF, a3 f i f0 f1 i0 i1, tAn1_ob hd hp hk ⟨f0, f1⟩ ⟨i0, i1⟩]
      by_cases c : i = 64 * d + p
      · rw [decide_eq_true c, Bool.and_true, Bool.and_true, Bool.and_true, Bool.and_assoc]
        congr 1
        by_cases c1 : f = k
        · rw [decide_eq_true c1, decide_eq_true (show k ≤ f ∧ f < k + (n + 1 : Nat) by omega)]
          rfl
        · rw [decide_eq_false c1, Bool.not_false, Bool.true_and]
          congr 1
          exact decide_eq_decide.mpr (by omega)
      · rw [decide_eq_false c, Bool.and_false, Bool.and_false, Bool.and_false, Bool.not_false, Bool.and_true, Bool.and_true]
    · rw [itF, a4 f f0 f1, tAn1_ob hd hp hk ⟨f0, f1⟩ (by omega), tAn1_since hd hp hk ⟨f0, f1⟩, lo 1810 (by omega), decide_eq_true (show 64 * d + p = 64 * d + p from rfl), Bool.and_true]
      by_cases c1 : f = k
      · subst c1
        rw [if_neg (by omega)]
        by_cases q : tOb T f (64 * d + p) = true
        · rw [if_pos ⟨rfl, q⟩, if_pos ⟨by omega, q⟩]
        · rw [if_neg (fun z => q z.2), if_neg (fun z => q z.2)]
      · rw [decide_eq_false c1, Bool.not_false, Bool.and_true, if_neg (fun z : f = k ∧ _ => c1 z.1)]
        by_cases q : (k + 1 ≤ f ∧ f < k + 1 + n) ∧ tOb T f (64 * d + p) = true
        · rw [if_pos q, if_pos ⟨by omega, q.2⟩]
        · rw [if_neg q, if_neg (fun z => q ⟨by omega, z.2⟩)]
theorem tAnsA (hd : 0 ≤ d ∧ d < 4) (hp : 0 ≤ p ∧ p < 64) (h : tOin T) : tOin (tAns d p T) ∧ (∀ j, 1664 ≤ j ∨ j < 1088 → tAns d p T j = T j) ∧
    (∀ f i, 0 ≤ f → f < 64 → 0 ≤ i → i < 256 → tOb (tAns d p T) f i = (tOb T f i && !decide (i = 64 * d + p))) ∧
    (∀ f, 0 ≤ f → f < 64 → tAns d p T (1088 + f) = if tOb T f (64 * d + p) = true then T 1810 else T (1088 + f)) := by
  obtain ⟨a1, a2, a3, a4⟩ := tAnsL hd hp 64 0 T (by omega) (by omega) h
  refine ⟨a1, a2, fun f i f0 f1 i0 i1 => ?_, fun f f0 f1 => ?_⟩
  · have := a3 f i f0 f1 i0 i1
    rw [decide_eq_true (show 0 ≤ f ∧ f < 0 + (64 : Nat) by omega), Bool.true_and] at this
    exact this
  · have := a4 f f0 f1
    by_cases q : tOb T f (64 * d + p) = true
    · rw [if_pos ⟨by omega, q⟩] at this
      rw [if_pos q]; exact this
    · rw [if_neg (fun z => q z.2)] at this
      rw [if_neg q]; exact this
theorem tAnsF (hd : 0 ≤ d ∧ d < 4) : ∀ (n : Nat) (k : Int) (T : Int → Int), 0 ≤ k → k + n ≤ 64 → tOin T →
    tOin (itF (fun p T => tAns d p T) k n T) ∧ (∀ j, 1664 ≤ j ∨ j < 1088 → itF (fun p T => tAns d p T) k n T j = T j) ∧
    (∀ f i, 0 ≤ f → f < 64 → 0 ≤ i → i < 256 → tOb (itF (fun p T => tAns d p T) k n T) f i = (tOb T f i && !decide (64 * d + k ≤ i ∧ i < 64 * d + k + n))) ∧
    (∀ f, 0 ≤ f → f < 64 → itF (fun p T => tAns d p T) k n T (1088 + f) = if anyF (fun i => tOb T f i) (64 * d + k) n = true then T 1810 else T (1088 + f)) := by
  intro n
  induction n with
  | zero =>
    intro k T k0 k1 h
    refine ⟨h, fun _ _ => rfl, fun f i f0 f1 i0 i1 => ?_, fun f f0 f1 => ?_⟩
    · rw [itF, decide_eq_false (show ¬ (64 * d + k ≤ i ∧ i < 64 * d + k + (0 : Nat)) by omega), Bool.not_false, Bool.and_true]
    · rw [itF, anyF, if_neg (c := false = true) Bool.noConfusion]
  | succ n ih =>
    intro k T k0 k1 h
    have hk : 0 ≤ k ∧ k < 64 := by omega
    obtain ⟨b1, b2, b3, b4⟩ := tAnsA hd hk h
    obtain ⟨a1, a2, a3, a4⟩ := ih (k + 1) (tAns d k T) (by omega) (by omega) b1
    refine ⟨a1, fun j hj => by rw [itF, a2 j hj, b2 j hj], fun f i f0 f1 i0 i1 => ?_, fun f f0 f1 => ?_⟩
    · rw [itF, a3 f i f0 f1 i0 i1, b3 f i f0 f1 i0 i1, Bool.and_assoc]
      congr 1
      by_cases c : i = 64 * d + k
      · rw [decide_eq_true c, decide_eq_true (show 64 * d + k ≤ i ∧ i < 64 * d + k + (n + 1 : Nat) by omega)]
        rfl
      · rw [decide_eq_false c, Bool.not_false, Bool.true_and]
        congr 1
        exact decide_eq_decide.mpr (by omega)
    · rw [itF, a4 f f0 f1, b2 1810 (by omega), b4 f f0 f1, anyF]
      have e : anyF (fun i => tOb (tAns d k T) f i) (64 * d + (k + 1)) n = anyF (fun i => tOb T f i) (64 * d + k + 1) n := by
        rw [show 64 * d + (k + 1) = 64 * d + k + 1 by omega]
        refine anyF_congr _ _ (fun i i0 i1 => ?_)
        rw [b3 f i f0 f1 (by omega) (by omega), decide_eq_false (show ¬ i = 64 * d + k by omega), Bool.not_false, Bool.and_true]
      rw [e]
      cases q1 : tOb T f (64 * d + k) with
      | true => rw [Bool.true_or, if_pos rfl, ite_self]
      | false => rw [Bool.false_or, if_neg (c := false = true) Bool.noConfusion]
theorem tCv_page {ar : Int} (hd : 0 ≤ d ∧ d < 4) (hp : 0 ≤ p ∧ p < 64) (h : tOin T) (ha : T 1810 = ar) : tCv T (tAns d p T) d (lshl64 1 p) ar := by
  obtain ⟨a1, a2, a3, a4⟩ := tAnsA hd hp h
  refine ⟨fun j hj => a2 j (by omega), a1, fun f i f0 f1 i0 i1 => ?_, fun f f0 f1 => ?_⟩
  · rw [a3 f i f0 f1 i0 i1]
    congr 2
    by_cases c : 64 * d ≤ i ∧ i < 64 * d + 64
    · rw [decide_eq_true c, Bool.true_and, btl_shl hp (by omega)]
      exact decide_eq_decide.mpr (by omega)
    · rw [decide_eq_false c, Bool.false_and, decide_eq_false (by omega)]
  · rw [a4 f f0 f1, ha]
    by_cases q : tOb T f (64 * d + p) = true
    · rw [if_pos q, if_pos ⟨p.toNat, by omega, by rw [show ((p.toNat : Nat) : Int) = p by omega]; exact q, by rw [btl_shl hp (by omega)]; exact decide_eq_true (by omega)⟩]
    · rw [if_neg q, if_neg]
      rintro ⟨k, hk, h1, h2⟩
      rw [btl_shl hp hk, decide_eq_true_eq] at h2
      rw [h2] at h1
      exact q h1
theorem tCv_all {ar : Int} (hd : 0 ≤ d ∧ d < 4) (h : tOin T) (ha : T 1810 = ar) : tCv T (itF (fun p T => tAns d p T) 0 64 T) d (-1) ar := by
  obtain ⟨a1, a2, a3, a4⟩ := tAnsF hd 64 0 T (by omega) (by omega) h
  refine ⟨fun j hj => a2 j (by omega), a1, fun f i f0 f1 i0 i1 => ?_, fun f f0 f1 => ?_⟩
  · rw [a3 f i f0 f1 i0 i1]
    congr 2
    by_cases c : 64 * d ≤ i ∧ i < 64 * d + 64
    · rw [decide_eq_true c, Bool.true_and, btl_m1 (by omega), decide_eq_true (by omega)]
    · rw [decide_eq_false c, Bool.false_and, decide_eq_false (by omega)]
  · rw [a4 f f0 f1, ha]
    by_cases q : anyF (fun i => tOb T f i) (64 * d + 0) 64 = true
    · rw [if_pos q]
      obtain ⟨i, i0, i1, i2⟩ := (anyF_iff _ _ _).mp q
      rw [if_pos ⟨(i - 64 * d).toNat, by omega, by rw [show 64 * d + ((i - 64 * d).toNat : Int) = i by omega]; exact i2, btl_m1 (by omega)⟩]
    · rw [if_neg q, if_neg]
      rintro ⟨k, hk, h1, h2⟩
      exact q ((anyF_iff _ _ _).mpr ⟨64 * d + k, by omega, by omega, h1⟩)
end COVER
