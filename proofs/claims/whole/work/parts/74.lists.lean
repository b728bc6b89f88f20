/-! requests as a list; what removals come to -/
abbrev rq4 : Type := Int × Int × Int × Int
def tRw4 (T : Int → Int) (k : Int) : rq4 := (T (1882 + 4 * k), T (1882 + 4 * k + 1), T (1882 + 4 * k + 2), T (1882 + 4 * k + 3))
def tL (T : Int → Int) : List rq4 := (List.range (T 1881).toNat).map (fun k : Nat => tRw4 T k)
def tRmG (P : rq4 → Bool) (c : Bool) : Nat → (Int → Int) → Int → Int
  | 0, T => T
  | k + 1, T => tRmG P c k (if P (tRw4 T k) = true then (if c = true then tMor (tReqG T k) 1917 else tReqG T k) else T)
def wN : Nat → Int → Int
  | 0, v => v
  | n + 1, v => wN n (w32 (v + 1))
def tRqE (T T' : Int → Int) : Prop := tL T = tL T' ∧ (0 ≤ T 1881 ∧ 0 ≤ T' 1881) ∧ ∀ j, (j < 1881 ∨ 1914 ≤ j) → T' j = T j
section LISTS
variable {T T' : Int → Int} {P P' : rq4 → Bool} {c : Bool}
theorem tL_len : (tL T).length = (T 1881).toNat := by unfold tL; rw [List.length_map, List.length_range]
theorem tL_get {k : Nat} (h : k < (tL T).length) : (tL T)[k] = tRw4 T k := by
  simp [tL]
theorem tL_go {k : Nat} (hk : (k : Int) < T 1881) (hW : T 1881 ≤ 8) : tL (tReqG T k) = (tL T).eraseIdx k := by
  have e1 : tReqG T k 1881 = T 1881 - 1 := tReqG_1881
  apply List.ext_getElem
  · rw [List.length_eraseIdx, tL_len, tL_len, e1]
    split <;> omega
  · intro i h1 h2
    have l1 := h1
    rw [tL_len, e1] at l1
    rw [tL_get h1, List.getElem_eraseIdx]
    obtain ⟨a1, a2, a3, a4⟩ := tReqG_row (T := T) (k := k) (i := i) (by omega) (by omega) (by omega)
    unfold tRw4
    rw [a1, a2, a3, a4]
    by_cases q : i < k
    · rw [dif_pos q, if_pos (by omega), tL_get]; rfl
    · rw [dif_neg q, if_neg (by omega), tL_get]; rfl
theorem tL_congr (h : ∀ j, 1881 ≤ j → j < 1914 → T' j = T j) (hW : T 1881 ≤ 8) : tL T' = tL T := by
  have e := h 1881 (by omega) (by omega)
  unfold tL
  rw [e]
  apply List.map_congr_left
  intro k hk
  rw [List.mem_range] at hk
  unfold tRw4
  rw [h _ (by omega) (by omega), h _ (by omega) (by omega), h _ (by omega) (by omega), h _ (by omega) (by omega)]
theorem take_erase {α : Type} (l : List α) : ∀ k : Nat, (l.eraseIdx k).take k = l.take k := by
  intro k
  induction l generalizing k with
  | nil => simp
  | cons a l ih =>
    cases k with
    | zero => simp
    | succ k => simp [ih]
theorem drop_erase {α : Type} (l : List α) : ∀ k : Nat, (l.eraseIdx k).drop k = l.drop (k + 1) := by
  intro k
  induction l generalizing k with
  | nil => simp
  | cons a l ih =>
    cases k with
    | zero => simp
    | succ k => simp [ih]
theorem tRmG_all : ∀ (n : Nat) (T : Int → Int), (n : Int) ≤ T 1881 → T 1881 ≤ 8 →
    tL (tRmG P c n T) = ((tL T).take n).filter (fun r => !P r) ++ (tL T).drop n ∧ (∀ j, (j < 1881 ∨ 1914 ≤ j) → (j ≠ 1917 ∨ c = false) → tRmG P c n T j = T j) ∧ (0 ≤ tRmG P c n T 1881 ∧ tRmG P c n T 1881 ≤ T 1881) ∧ (c = true → tRmG P c n T 1917 = wN (T 1881 - tRmG P c n T 1881).toNat (T 1917)) := by
  intro n
  induction n with
  | zero =>
    intro T h0 h1
    refine ⟨by simp [tRmG], fun _ _ _ => rfl, ⟨by simpa [tRmG] using h0, Int.le_refl _⟩, fun _ => ?_⟩
    rw [tRmG, show (T 1881 - T 1881).toNat = 0 by omega]
    rfl
  | succ n ih =>
    intro T h0 h1
    have hn : n < (tL T).length := by rw [tL_len]; omega
    have tk : (tL T).take (n + 1) = (tL T).take n ++ [tRw4 T n] := by
      rw [List.take_succ_eq_append_getElem hn, tL_get hn]
    rw [tRmG]
    cases q : P (tRw4 T n) with
    | false =>
      rw [if_neg (c := false = true) Bool.noConfusion]
      obtain ⟨a1, a2, a3, a4⟩ := ih T (by omega) h1
      refine ⟨?_, a2, a3, a4⟩
      rw [a1, tk, List.filter_append, List.append_assoc]
      congr 1
      rw [List.drop_eq_getElem_cons hn, tL_get hn]
      simp [q]
    | true =>
      rw [if_pos rfl]
      have key : ∀ T1 : Int → Int, T1 1881 = T 1881 - 1 → tL T1 = (tL T).eraseIdx n → (∀ j, (j < 1881 ∨ 1914 ≤ j) → (j ≠ 1917 ∨ c = false) → T1 j = T j) → (c = true → T1 1917 = w32 (T 1917 + 1)) →
          tL (tRmG P c n T1) = ((tL T).take (n + 1)).filter (fun r => !P r) ++ (tL T).drop (n + 1) ∧ (∀ j, (j < 1881 ∨ 1914 ≤ j) → (j ≠ 1917 ∨ c = false) → tRmG P c n T1 j = T j) ∧ (0 ≤ tRmG P c n T1 1881 ∧ tRmG P c n T1 1881 ≤ T 1881) ∧ (c = true → tRmG P c n T1 1917 = wN (T 1881 - tRmG P c n T1 1881).toNat (T 1917)) := by
        intro T1 t1 t2 t3 t4
        obtain ⟨a1, a2, a3, a4⟩ := ih T1 (by omega) (by omega)
        refine ⟨?_, fun j hj hc => by rw [a2 j hj hc, t3 j hj hc], ⟨a3.1, by omega⟩, fun hc => ?_⟩
        · rw [a1, t2, take_erase, drop_erase, tk, List.filter_append]
          simp [q]
        · rw [a4 hc, t4 hc, show (T 1881 - tRmG P c n T1 1881).toNat = (T1 1881 - tRmG P c n T1 1881).toNat + 1 by omega, wN]
      have g1 : tReqG T n 1881 = T 1881 - 1 := tReqG_1881
      have lo : ∀ j, j < 1881 ∨ 1914 ≤ j → tReqG T n j = T j := fun j hj => tReqG_lo hj (by omega) h1
      cases c with
      | false =>
        rw [if_neg (c := false = true) Bool.noConfusion]
        exact key _ g1 (tL_go (by omega) h1) (fun j hj _ => lo j hj) (fun z => Bool.noConfusion z)
      | true =>
        rw [if_pos rfl]
        refine key _ (by rw [tMor_ne (by omega)]; exact g1) ?_ (fun j hj hc => by rw [tMor_ne (by simpa using hc)]; exact lo j hj) (fun _ => ?_)
        · rw [tL_congr (T := tReqG T n) (fun j _ _ => tMor_ne (by omega)) (by omega)]
          exact tL_go (by omega) h1
        · unfold tMor
          rw [tS_same, lo _ (by omega)]
theorem tRmG_full (h0 : 0 ≤ T 1881) (h1 : T 1881 ≤ 8) : tL (tRmG P c (T 1881).toNat T) = (tL T).filter (fun r => !P r) := by
  rw [(tRmG_all (P := P) (c := c) (T 1881).toNat T (by omega) h1).1]
  have e : (tL T).length ≤ (T 1881).toNat := by rw [tL_len]; exact Nat.le_refl _
  rw [List.take_of_length_le e, List.drop_of_length_le e, List.append_nil]
theorem tFaA_G {e : Int} : ∀ (n : Nat) (T : Int → Int), tFaA e n T = tRmG (fun r => decide (r.1 = e)) true n T := by
  intro n
  induction n with
  | zero => intro T; rfl
  | succ n ih =>
    intro T
    rw [tFaA, tRmG, ih, if_pos (c := true = true) rfl]
    congr 1
    unfold tRw4
    by_cases q : T (1882 + 4 * n) = e
    · rw [if_pos q, if_pos (by simp [q])]
    · rw [if_neg q, if_neg (by simp [q])]
theorem tDtR_G {gr : Int → Int} {g : Int} : ∀ (n : Nat) (T : Int → Int), tDtR gr g n T = tRmG (fun r => decide (gr r.1 = g)) true n T := by
  intro n
  induction n with
  | zero => intro T; rfl
  | succ n ih =>
    intro T
    rw [tDtR, tRmG, ih, if_pos (c := true = true) rfl]
    congr 1
    unfold tRw4
    by_cases q : gr (T (1882 + 4 * n)) = g
    · rw [if_pos q, if_pos (by simp [q])]
    · rw [if_neg q, if_neg (by simp [q])]
theorem tRmB_G {b : Int} : ∀ (n : Nat) (T : Int → Int), tRmB b n T = tRmG (fun r => decide (r.2.2.2 = b)) false n T := by
  intro n
  induction n with
  | zero => intro T; rfl
  | succ n ih =>
    intro T
    rw [tRmB, tRmG, ih, if_neg (c := false = true) Bool.noConfusion]
    congr 1
    unfold tRw4
    by_cases q : T (1882 + 4 * n + 3) = b
    · rw [if_pos q, if_pos (by simp [q])]
    · rw [if_neg q, if_neg (by simp [q])]
theorem wN_add : ∀ (a b : Nat) (v : Int), wN a (wN b v) = wN (b + a) v := by
  intro a b
  induction b with
  | zero => intro v; rw [Nat.zero_add]; rfl
  | succ b ih => intro v; rw [wN, ih, show b + 1 + a = b + a + 1 by omega, wN]
theorem wN_w32 : ∀ (n : Nat) (v : Int), in32 v → wN n v = w32 (v + n) := by
  intro n
  induction n with
  | zero =>
    intro v h
    unfold in32 at h
    rw [wN, Int.natCast_zero, Int.add_zero, w32_id h.1 h.2]
  | succ n ih =>
    intro v h
    rw [wN, ih _ w32_in, w32_add]
    congr 1
    omega
theorem tRqE_rows (h : tRqE T T') : T' 1881 = T 1881 ∧ ∀ k, 0 ≤ k → k < T 1881 → T' (1882 + 4 * k) = T (1882 + 4 * k) ∧ T' (1882 + 4 * k + 1) = T (1882 + 4 * k + 1) ∧ T' (1882 + 4 * k + 2) = T (1882 + 4 * k + 2) ∧ T' (1882 + 4 * k + 3) = T (1882 + 4 * k + 3) := by
  obtain ⟨h1, h2, h3⟩ := h
  have l : (T 1881).toNat = (T' 1881).toNat := by rw [← tL_len, ← tL_len, h1]
  refine ⟨by omega, fun k k0 k1 => ?_⟩
  have a : k.toNat < (tL T).length := by rw [tL_len]; omega
  have b : k.toNat < (tL T').length := by rw [tL_len]; omega
  have e : (tL T')[k.toNat] = (tL T)[k.toNat] := by simp only [h1]
  rw [tL_get a, tL_get b, show ((k.toNat : Nat) : Int) = k by omega] at e
  unfold tRw4 at e
  rw [Prod.mk.injEq, Prod.mk.injEq, Prod.mk.injEq] at e
  exact e
theorem rRq_eq {x : Nat} {μ : gM} (h : rRq x T μ) (e : tRqE T T') : rRq x T' μ := by
  obtain ⟨r1, r2⟩ := tRqE_rows e
  obtain ⟨h1, hb, h2, h3, h4, h5, h6, h7⟩ := h
  obtain ⟨-, -, lo⟩ := e
  refine ⟨by rw [r1]; exact h1, by rw [lo _ (by omega), lo _ (by omega)]; exact hb, by rw [r1]; exact h2, by rw [lo _ (by omega)]; exact h3, by rw [lo _ (by omega)]; exact h4, by rw [lo _ (by omega)]; exact h5, by rw [lo _ (by omega)]; exact h6, fun k k0 k1 => ?_⟩
  rw [r1] at k1
  obtain ⟨a1, a2, a3, a4⟩ := r2 k k0 k1
  rw [a1, a2, a3, a4]
  exact h7 k k0 k1
theorem rSt_eq {B : Nat} {X μ : gM} (hI : gIX X) (h : rSt B X T μ) (e : tRqE T T') : rSt B X T' μ := by
  have lo := e.2.2
  have f : gFr (B + 37) (B + 37) μ μ := gFr_refl
  exact ⟨rTr_fr hI h.1 f (by omega), rTb_fr h.2.1 f (by omega) (fun j hj => by exact lo j (by omega)), rFr_fr h.2.2.1 f (by omega) (fun j hj => by exact lo j (by omega)), rQu_fr h.2.2.2.1 f (by omega) (fun j j1 j2 => by exact lo j (by omega)), rCa_fr h.2.2.2.2.1 f (by omega) (fun j j1 j2 => by exact lo j (by omega)), rRq_eq h.2.2.2.2.2.1 e, rLg_fr h.2.2.2.2.2.2.1 f (by omega) (fun j hj => by exact lo j (by omega)), rDm_fr hI h.2.2.2.2.2.2.2 f (by omega) (fun j j1 j2 => by exact lo j (by omega))⟩
end LISTS
