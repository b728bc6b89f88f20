/-! calls, side by side, second part -/
section CALLS2
variable {B : Nat} {N : Int} {X X' μ μ' μ1 ν : gM} {T T' : Int → Int} {Q : Int → gM → Prop} {a v : Int} {G M : gM → (Int → gM → Prop) → Prop}
theorem bt_255 : ∀ k : Fin 8, bt 255 k.val = true := by decide
theorem bt_small {w : Int} (h : in32 w) (hb : ∀ k, 8 ≤ k → k < 32 → bt w k = false) : 0 ≤ w ∧ w < 256 := by
  have e : iand32 w 255 = w := bt_ext in32_and h (fun k hk => by
    rw [bt_and]
    by_cases c : k < 8
    · have := bt_255 ⟨k, c⟩
      dsimp only at this
      rw [this, Bool.and_true]
    · rw [hb k (by omega) hk, Bool.false_and])
  rw [← e, iand32_bv]
  generalize BitVec.ofInt 32 w = x
  have e255 : (BitVec.ofInt 32 255).toNat = 255 := by decide
  have lt : (x &&& BitVec.ofInt 32 255).toNat ≤ 255 := by
    rw [BitVec.toNat_and, e255]
    exact Nat.and_le_right
  rw [BitVec.toInt_eq_toNat_of_lt (by omega)]
  omega
theorem in32_0 : in32 0 := by unfold in32; omega
theorem xGb_bit (hI : gIX X) {e : Int} {k : Nat} (hk : k < 32) : bt (xGb X e) k = (decide ((k : Int) < X 167 12) && decide (X 179 k = X 179 e)) := by
  have n2 := hI.2.1
  unfold xGb
  rw [bt_itOr (C := fun m => X 179 m = X 179 e) hk (X 167 12).toNat 0 0 (by omega) (by omega), bt_zero, Bool.false_or]
  congr 1
  rw [decide_eq_decide]
  omega
theorem xGb_32 {e : Int} : in32 (xGb X e) := by
  unfold xGb
  exact itF_inv (I := fun s => in32 s) _ _ _ in32_0 (fun _ _ _ _ _ => in32_or)
theorem xGb_in (hI : gIX X) {e : Int} : 0 ≤ xGb X e ∧ xGb X e < 256 := bt_small xGb_32 (fun k k0 k1 => by
  have n2 := hI.2.1
  rw [xGb_bit hI k1, decide_eq_false (by omega), Bool.false_and])
theorem xGb_cnt (hI : gIX X) {e : Int} : xBin (xGb X e) = cntF (fun m => decide (X 179 m = X 179 e)) 0 (X 167 12).toNat := by
  have n2 := hI.2.1
  unfold xBin
  rw [show (31 : Nat) = (X 167 12).toNat + (31 - (X 167 12).toNat) by omega, cntF_add, cntF_congr (P' := fun m => decide (X 179 m = X 179 e)) (X 167 12).toNat 0 (fun i i0 i1 => by
    rw [xGb_bit hI (by omega), decide_eq_true (by omega), Bool.true_and, show ((i.toNat : Nat) : Int) = i by omega]), cntF_congr (P' := fun _ => false) (31 - (X 167 12).toNat) _ (fun i i0 i1 => by
    rw [xGb_bit hI (by omega), decide_eq_false (by omega), Bool.false_and]), cntF_none, Int.add_zero]
theorem xAb_32 : ∀ (n : Nat) (b s : Int), in32 s → in32 (xAb X n b s) := by
  intro n
  induction n with
  | zero => intro b s h; exact h
  | succ n ih =>
    intro b s h
    rw [xAb]
    split
    · exact h
    · exact ih _ _ in32_or
theorem xAbo_in (hI : gIX X) {d : Int} (hd : 0 ≤ d ∧ d < X 167 12) : 0 ≤ xAbo X d ∧ xAbo X d < 256 := by
  obtain ⟨n1, n2, n3, n4, n5, n6, -⟩ := id hI
  have q := n6 d hd.1 hd.2
  unfold xAbo
  refine bt_small (xAb_32 _ _ _ in32_0) (fun k k0 k1 => ?_)
  apply Bool.eq_false_iff.mpr
  intro z
  have := xAb_le hI 7 (X 174 d) k (by omega) (by omega) k1 z
  omega
theorem xPas_in (hI : gIX X) {one other : Int} : (xPas X one other = -2 ∨ 0 ≤ xPas X one other) ∧ xPas X one other < 64 := by
  have n1 := hI.1
  have p64 : 2 ^ (X 167 11).toNat ≤ 64 := by
    have : (X 167 11).toNat ≤ 6 := by omega
    calc 2 ^ (X 167 11).toNat ≤ 2 ^ 6 := Nat.pow_le_pow_right (by omega) this
      _ = 64 := rfl
  unfold xPas xPb
  refine itF_inv (I := fun best : Int => (best = -2 ∨ 0 ≤ best) ∧ best < 64) _ _ _ (by omega) (fun j s j0 j1 hs => ?_)
  split
  · exact hs
  · split
    · omega
    · exact hs
theorem k_domainOr {e o : Int} (hI : gIX X) (h : rSt B X T μ) (he : 0 ≤ e ∧ e < X 167 12) : gE 174 0 [gO 6 B, gI e, gI o, gX] [] μ Q = Q (if T (1673 + X 179 e) = -1 then o else T (1673 + X 179 e)) μ := by
  have n2 := hI.2.1
  have b1 := h.2.2.2.2.2.2.2 e he.1 he.2
  have e0 := he.1
  have e1 : e < ((8 : Nat) : Int) := by omega
  by_cases c : T (1673 + X 179 e) = -1
  · simp (disch := first | assumption | omega) only [e174_0, e174_1, e174_4, e174_5, e174_8, e174_9, e174_10, e174_11, e174_14, e174_15, e174_18, e174_19, gK0_eq, gK1_eq, gK3_eq, w32_id, bI_eq0, bI_eq1, Bool.false_eq_true, not_true_eq_false, not_false_eq_true, ne_eq, ite_not, ↓reduceIte, if_true, if_false, Int.reduceToNat, Nat.reduceAdd, Int.reduceEq, Int.reduceLT, Int.reduceLE, Int.reduceNeg, bI_T, bI_F, ↓if_pos, ↓if_neg, s_at, atv_in, b1, c]
  · simp (disch := first | assumption | omega) only [e174_0, e174_1, e174_4, e174_5, e174_8, e174_9, e174_10, e174_11, e174_14, e174_15, e174_18, e174_19, gK0_eq, gK1_eq, gK3_eq, w32_id, bI_eq0, bI_eq1, Bool.false_eq_true, not_true_eq_false, not_false_eq_true, ne_eq, ite_not, ↓reduceIte, if_true, if_false, Int.reduceToNat, Nat.reduceAdd, Int.reduceEq, Int.reduceLT, Int.reduceLE, Int.reduceNeg, bI_T, bI_F, ↓if_pos, ↓if_neg, s_at, atv_in, b1, c]
theorem c_use {e p r : Int} (h : gInv N μ) : cEq N μ (gE 13 0 [gO 9 0, gI e, gI p, gI r] []) (gE 299 0 [gO 10 167, gI e, gI p, gI r, gX, gX] []) := by
  obtain ⟨T, hk, ⟨hI, hb, hr, ht⟩, ok⟩ := gInv_T h
  obtain ⟨o1, o2, o3, o4, o5, o6, o7, o8, o9, o10, o11, o12, o13, o14⟩ := id ok
  by_cases g1 : 0 ≤ e ∧ e < μ 167 12
  · by_cases g2 : 0 ≤ p ∧ p < 64
    · by_cases g3 : 1 ≤ r ∧ r ≤ 2
      · have n2 := hI.2.1
        have g := gX8 hI (d := e) (by omega)
        have og := o10 _ g.1 g.2.1
        by_cases c : T (1673 + μ 179 e) = -1
        · obtain ⟨μ1, ff, rr, run⟩ := k_use_none (p := p) (r := r) hI hr g1 c
          have fw : gFr 17 167 μ μ1 := gFr_mono ff (by omega) (by omega)
          have x9 : μ1 179 = μ 179 := funext fun i => fw _ _ (by omega)
          have x2 : μ1 167 12 = μ 167 12 := fw _ _ (by omega)
          refine cEq_s (T := T) (a := -2) h hk ff rr (tInv_congr hI ht (fun j hj => tFaN_lo' o9 (by omega))) (ν := gS μ1 167 2 0) cFm2 (fun Q => by simp (disch := first | assumption | omega) only [e13_0, e13_1, e13_2, e13_5, e13_8, e13_9, e13_12, e13_15, e13_16, e13_19, e13_22, e13_23, e13_26, e13_27, e13_28, e13_29, e13_32, e13_35, e13_36, gK0_eq, gK1_eq, gK3_eq, w32_id, bI_eq0, bI_eq1, Bool.false_eq_true, not_true_eq_false, not_false_eq_true, ne_eq, ite_not, ↓reduceIte, if_true, if_false, Int.reduceToNat, Nat.reduceAdd, Int.reduceEq, Int.reduceLT, Int.reduceLE, Int.reduceNeg, bI_T, bI_F, ↓if_pos, ↓if_neg, k_isDevice hr, k_isPage, k_isRight, g1, g2, g3, and_self, run]) (fun Q => ?_)
          rw [s_use_nodom (gBk_fr hb fw) (gIX_fr hI fw) (by rw [x2]; exact g1) g2 g3 o9 (by rw [x9]; omega), xSign_X (gXe_fr fw), x9]
        · have hd : 0 ≤ T (1673 + μ 179 e) ∧ T (1673 + μ 179 e) < 4 := by omega
          by_cases hf : 0 ≤ tLkF T (T (1673 + μ 179 e)) p r
          · obtain ⟨μ1, ff, rr, run⟩ := k_use_ok hI hr g1 g2 hd hf
            have fw : gFr 17 167 μ μ1 := gFr_mono ff (by omega) (by omega)
            have x9 : μ1 179 = μ 179 := funext fun i => fw _ _ (by omega)
            have x8 : μ1 178 0 = μ 178 0 := fw _ _ (by omega)
            have x2 : μ1 167 12 = μ 167 12 := fw _ _ (by omega)
            obtain ⟨w, a, run2⟩ := s_use_ok (T := T) (gBk_fr hb fw) (gIX_fr hI fw) (by rw [x2]; exact g1) g2 g3 (by rw [x8]; exact o3) (by rw [x9]; exact hd) (by rw [x9]; exact hf)
            rw [x8, x9] at run2
            refine cEq_s (T := T) (a := tLkF T (T (1673 + μ 179 e)) p r) h hk ff rr (tInv_lk hI ht o3 o4) (ν := mW (gS μ1 167 2 0) w a) ?_ (fun Q => by simp (disch := first | assumption | omega) only [e13_0, e13_1, e13_2, e13_5, e13_8, e13_9, e13_12, e13_15, e13_16, e13_19, e13_22, e13_23, e13_26, e13_27, e13_28, e13_29, e13_32, e13_35, e13_36, gK0_eq, gK1_eq, gK3_eq, w32_id, bI_eq0, bI_eq1, Bool.false_eq_true, not_true_eq_false, not_false_eq_true, ne_eq, ite_not, ↓reduceIte, if_true, if_false, Int.reduceToNat, Nat.reduceAdd, Int.reduceEq, Int.reduceLT, Int.reduceLE, Int.reduceNeg, bI_T, bI_F, ↓if_pos, ↓if_neg, k_isDevice hr, k_isPage, k_isRight, g1, g2, g3, and_self, run]) run2
            unfold mW
            exact cFm_trans (cFm_trans cFm2 (cFm_gS (by omega))) (cFm_gS (by omega))
          · have hh : tHit T (T (1673 + μ 179 e)) p r = false := by
              apply Bool.eq_false_iff.mpr
              intro z
              apply hf
              unfold tLkF
              rw [if_pos z]
              have ze := tHit_ent z
              have z2 : tEnt T (T (1673 + μ 179 e)) p < T 1813 := (tEnt_lt o3.1).1
              exact (o12.2.2.1 _ ze z2).2.2.1.1
            have hw : tWok T (T (1673 + μ 179 e)) p r = false := by
              apply Bool.eq_false_iff.mpr
              intro z
              apply hf
              unfold tLkF
              rw [hh, if_neg Bool.false_ne_true, if_pos z]
              unfold tWok tMp at z
              rw [Bool.and_eq_true, decide_eq_true_eq] at z
              exact z.1
            obtain ⟨w, ew⟩ : ∃ w : Int, w = if tMp T (T (1673 + μ 179 e)) p = true then 8 else 7 := ⟨_, rfl⟩
            obtain ⟨ar, ea⟩ : ∃ w : Int, w = if tMp T (T (1673 + μ 179 e)) p = true then p else tLvl T (T (1673 + μ 179 e)) p := ⟨_, rfl⟩
            obtain ⟨μ1, ff, rr, run⟩ := k_use_fault hI hr g1 g2 hd hh hw w ar ew ea
            have fw : gFr 17 167 μ μ1 := gFr_mono ff (by omega) (by omega)
            have x9 : μ1 179 = μ 179 := funext fun i => fw _ _ (by omega)
            have x5 : μ1 175 = μ 175 := funext fun i => fw _ _ (by omega)
            have x8 : μ1 178 0 = μ 178 0 := fw _ _ (by omega)
            have x2 : μ1 167 12 = μ 167 12 := fw _ _ (by omega)
            obtain ⟨u1, u2, u3⟩ := tInv_use (w := w) (a := ar) (sg := xSign μ e) hI ht g1 g2 g3 hd o9
            have run2 := fun Q => s_use_fault (Q := Q) (T := T) (gBk_fr hb fw) (gIX_fr hI fw) (e := e) (p := p) (r := r) (by rw [x2]; exact g1) g2 g3 (by rw [x8]; exact o3) (by rw [x9]; exact hd) (by rw [x9]; exact hh) (by rw [x9]; exact hw) o9 o14
            rw [x9, xSign_X (gXe_fr fw), x5] at run2
            dsimp only at run2
            simp only [← ew, ← ea] at run2
            have hν : cFm μ1 (mW (gS μ1 167 2 0) w ar) := by
              unfold mW
              exact cFm_trans (cFm_trans cFm2 (cFm_gS (by omega))) (cFm_gS (by omega))
            have runG : ∀ Q : Int → gM → Prop, gE 13 0 [gO 9 0, gI e, gI p, gI r] [] μ Q = Q (if μ 175 e = 0 then -2 else if T 1881 < 8 then -3 else -4) μ1 := fun Q => by simp (disch := first | assumption | omega) only [e13_0, e13_1, e13_2, e13_5, e13_8, e13_9, e13_12, e13_15, e13_16, e13_19, e13_22, e13_23, e13_26, e13_27, e13_28, e13_29, e13_32, e13_35, e13_36, gK0_eq, gK1_eq, gK3_eq, w32_id, bI_eq0, bI_eq1, Bool.false_eq_true, not_true_eq_false, not_false_eq_true, ne_eq, ite_not, ↓reduceIte, if_true, if_false, Int.reduceToNat, Nat.reduceAdd, Int.reduceEq, Int.reduceLT, Int.reduceLE, Int.reduceNeg, bI_T, bI_F, ↓if_pos, ↓if_neg, k_isDevice hr, k_isPage, k_isRight, g1, g2, g3, and_self, run]
            by_cases s0 : μ 175 e = 0
            · simp only [if_pos s0] at rr run2 runG
              exact cEq_s (T := T) h hk ff rr u1 hν runG run2
            · by_cases s1 : T 1881 < 8
              · simp only [if_neg s0, if_pos s1] at rr run2 runG
                exact cEq_s (T := T) h hk ff rr (u2 s1) hν runG run2
              · simp only [if_neg s0, if_neg s1] at rr run2 runG
                exact cEq_s (T := T) h hk ff rr (u3 (by omega)) hν runG run2
      · exact cEq_q (T := T) (a := -1) h hk hr ht cFm2 (fun Q => by simp (disch := first | assumption | omega) only [e13_0, e13_1, e13_2, e13_5, e13_8, e13_9, e13_12, e13_15, e13_16, e13_19, e13_22, e13_23, e13_26, e13_27, e13_28, e13_29, e13_32, e13_35, e13_36, gK0_eq, gK1_eq, gK3_eq, w32_id, bI_eq0, bI_eq1, Bool.false_eq_true, not_true_eq_false, not_false_eq_true, ne_eq, ite_not, ↓reduceIte, if_true, if_false, Int.reduceToNat, Nat.reduceAdd, Int.reduceEq, Int.reduceLT, Int.reduceLE, Int.reduceNeg, bI_T, bI_F, ↓if_pos, ↓if_neg, k_isDevice hr, k_isPage, k_isRight, g1, g2, g3, and_self]) (fun Q => s_use_bad (by omega))
    · exact cEq_q (T := T) (a := -1) h hk hr ht cFm2 (fun Q => by simp (disch := first | assumption | omega) only [e13_0, e13_1, e13_2, e13_5, e13_8, e13_9, e13_12, e13_15, e13_16, e13_19, e13_22, e13_23, e13_26, e13_27, e13_28, e13_29, e13_32, e13_35, e13_36, gK0_eq, gK1_eq, gK3_eq, w32_id, bI_eq0, bI_eq1, Bool.false_eq_true, not_true_eq_false, not_false_eq_true, ne_eq, ite_not, ↓reduceIte, if_true, if_false, Int.reduceToNat, Nat.reduceAdd, Int.reduceEq, Int.reduceLT, Int.reduceLE, Int.reduceNeg, bI_T, bI_F, ↓if_pos, ↓if_neg, k_isDevice hr, k_isPage, g1, g2, and_self]) (fun Q => s_use_bad (by omega))
  · exact cEq_q (T := T) (a := -1) h hk hr ht cFm2 (fun Q => by simp (disch := first | assumption | omega) only [e13_0, e13_1, e13_2, e13_5, e13_8, e13_9, e13_12, e13_15, e13_16, e13_19, e13_22, e13_23, e13_26, e13_27, e13_28, e13_29, e13_32, e13_35, e13_36, gK0_eq, gK1_eq, gK3_eq, w32_id, bI_eq0, bI_eq1, Bool.false_eq_true, not_true_eq_false, not_false_eq_true, ne_eq, ite_not, ↓reduceIte, if_true, if_false, Int.reduceToNat, Nat.reduceAdd, Int.reduceEq, Int.reduceLT, Int.reduceLE, Int.reduceNeg, bI_T, bI_F, ↓if_pos, ↓if_neg, k_isDevice hr, g1]) (fun Q => s_use_bad (by omega))
theorem c_group {e : Int} (h : gInv N μ) : cEq N μ (gE 20 0 [gO 9 0, gI e] []) (gE 244 0 [gO 10 167, gI e, gX, gX] []) := by
  obtain ⟨T, hk, ⟨hI, hb, hr, ht⟩, ok⟩ := gInv_T h
  have n2 := hI.2.1
  by_cases g1 : 0 ≤ e ∧ e < μ 167 12
  · have he : 0 ≤ e ∧ e < 8 := by omega
    exact cEq_q (T := T) (a := xGb μ e) h hk hr ht cFm2 (fun Q => by simp (disch := first | assumption | omega) only [e20_0, e20_1, e20_2, e20_5, e20_8, e20_9, e20_12, e20_15, e20_16, e20_19, e20_22, e20_23, gK0_eq, gK1_eq, gK3_eq, w32_id, bI_eq0, bI_eq1, Bool.false_eq_true, not_true_eq_false, not_false_eq_true, ne_eq, ite_not, ↓reduceIte, if_true, if_false, Int.reduceToNat, Nat.reduceAdd, Int.reduceEq, Int.reduceLT, Int.reduceLE, Int.reduceNeg, bI_T, bI_F, ↓if_pos, ↓if_neg, k_isDevice hr, g1, and_self, k_groupBits hI hr.1 g1]) (fun Q => by rw [s_group hI, if_pos g1])
  · exact cEq_q (T := T) (a := -1) h hk hr ht cFm2 (fun Q => by simp (disch := first | assumption | omega) only [e20_0, e20_1, e20_2, e20_5, e20_8, e20_9, e20_12, e20_15, e20_16, e20_19, e20_22, e20_23, gK0_eq, gK1_eq, gK3_eq, w32_id, bI_eq0, bI_eq1, Bool.false_eq_true, not_true_eq_false, not_false_eq_true, ne_eq, ite_not, ↓reduceIte, if_true, if_false, Int.reduceToNat, Nat.reduceAdd, Int.reduceEq, Int.reduceLT, Int.reduceLE, Int.reduceNeg, bI_T, bI_F, ↓if_pos, ↓if_neg, k_isDevice hr, g1]) (fun Q => by rw [s_group hI, if_neg g1])
theorem gE_fix {n pc : Nat} {ls st : List gv} {μ : gM} {a : Int} {F : (Int → Int) → gM} (h : ∀ Q : Int → gM → Prop, ∃ g, gE n pc ls st μ Q = Q a (F g)) : ∃ g, ∀ Q : Int → gM → Prop, gE n pc ls st μ Q = Q a (F g) := by
  obtain ⟨g0, h0⟩ := h (fun r ν => r = a ∧ ∃ g, ν = F g)
  have h1 : gE n pc ls st μ (fun r ν => r = a ∧ ∃ g, ν = F g) := by rw [h0]; exact ⟨rfl, g0, rfl⟩
  obtain ⟨k, r, ν, run, er, g, eν⟩ := h1
  subst er eν
  refine ⟨g, fun Q => propext ⟨?_, fun q => ⟨k, _, _, run, q⟩⟩⟩
  rintro ⟨k2, r2, ν2, run2, q⟩
  have a1 := grun_le (Nat.le_max_left k k2) run
  have a2 := grun_le (Nat.le_max_right k k2) run2
  rw [a1] at a2
  cases a2
  exact q
theorem mH_mK {g : Int → Int} : mH (mK μ 0 T) g = mK (mH μ g) 0 T := by
  funext k i
  unfold mH mrow mK
  by_cases c : k = 180
  · subst c
    simp
  · simp only [if_neg c]
theorem cFm_mH {g : Int → Int} : cFm μ (mH μ g) := fun k i c _ _ => by
  unfold mH mrow
  rw [if_neg c]
theorem k_pset {one other : Int} (hI : gIX μ) (h : rSt 17 μ T μ) : ∃ μ1, gFr 17 67 μ μ1 ∧ rSt 17 μ T μ1 ∧ ∀ Q : Int → gM → Prop, gE 22 0 [gO 9 0, gI one, gI other] [] μ Q = Q (xPsA μ one other) μ1 := by
  have n2 := hI.2.1
  by_cases g1 : 0 ≤ one ∧ one < μ 167 12
  · by_cases g2 : 0 ≤ other ∧ other < μ 167 12
    · by_cases g3 : one = other
      · refine ⟨μ, gFr_refl, h, fun Q => ?_⟩
        unfold xPsA
        rw [if_neg (by omega)]
        subst g3
        simp (disch := first | assumption | omega) only [e22_0, e22_1, e22_2, e22_5, e22_8, e22_9, e22_10, e22_13, e22_16, e22_17, e22_18, e22_21, e22_22, e22_25, e22_28, e22_29, e22_30, e22_33, e22_36, e22_37, gK0_eq, gK1_eq, gK3_eq, w32_id, bI_eq0, bI_eq1, Bool.false_eq_true, not_true_eq_false, not_false_eq_true, ne_eq, ite_not, ↓reduceIte, if_true, if_false, Int.reduceToNat, Nat.reduceAdd, Int.reduceEq, Int.reduceLT, Int.reduceLE, Int.reduceNeg, bI_T, bI_F, ↓if_pos, ↓if_neg, k_isDevice h, g1, and_self]
      · obtain ⟨μ1, f, run⟩ := k_fewest (one := one) (other := other) hI h.1.1 (by omega) (by omega)
        refine ⟨μ1, gFr_mono f (by omega) (by omega), ⟨rTr_fr hI h.1 f (by omega), rTb_fr h.2.1 f (by omega) (fun j hj => by exact rfl), rFr_fr h.2.2.1 f (by omega) (fun j hj => by exact rfl), rQu_fr h.2.2.2.1 f (by omega) (fun j j1 j2 => by exact rfl), rCa_fr h.2.2.2.2.1 f (by omega) (fun j j1 j2 => by exact rfl), rRq_fr h.2.2.2.2.2.1 f (by omega) (fun j j1 j2 => by exact rfl), rLg_fr h.2.2.2.2.2.2.1 f (by omega) (fun j hj => by exact rfl), rDm_fr hI h.2.2.2.2.2.2.2 f (by omega) (fun j j1 j2 => by exact rfl)⟩, fun Q => ?_⟩
        unfold xPsA
        rw [if_pos ⟨g1.1, g1.2, g2.1, g2.2, g3⟩]
        simp (disch := first | assumption | omega) only [e22_0, e22_1, e22_2, e22_5, e22_8, e22_9, e22_10, e22_13, e22_16, e22_17, e22_18, e22_21, e22_22, e22_25, e22_28, e22_29, e22_30, e22_33, e22_36, e22_37, gK0_eq, gK1_eq, gK3_eq, w32_id, bI_eq0, bI_eq1, Bool.false_eq_true, not_true_eq_false, not_false_eq_true, ne_eq, ite_not, ↓reduceIte, if_true, if_false, Int.reduceToNat, Nat.reduceAdd, Int.reduceEq, Int.reduceLT, Int.reduceLE, Int.reduceNeg, bI_T, bI_F, ↓if_pos, ↓if_neg, k_isDevice h, g1, g2, g3, and_self, run]
    · refine ⟨μ, gFr_refl, h, fun Q => ?_⟩
      unfold xPsA
      rw [if_neg (by omega)]
      simp (disch := first | assumption | omega) only [e22_0, e22_1, e22_2, e22_5, e22_8, e22_9, e22_10, e22_13, e22_16, e22_17, e22_18, e22_21, e22_22, e22_25, e22_28, e22_29, e22_30, e22_33, e22_36, e22_37, gK0_eq, gK1_eq, gK3_eq, w32_id, bI_eq0, bI_eq1, Bool.false_eq_true, not_true_eq_false, not_false_eq_true, ne_eq, ite_not, ↓reduceIte, if_true, if_false, Int.reduceToNat, Nat.reduceAdd, Int.reduceEq, Int.reduceLT, Int.reduceLE, Int.reduceNeg, bI_T, bI_F, ↓if_pos, ↓if_neg, k_isDevice h, g1, g2, and_self]
  · refine ⟨μ, gFr_refl, h, fun Q => ?_⟩
    unfold xPsA
    rw [if_neg (by omega)]
    simp (disch := first | assumption | omega) only [e22_0, e22_1, e22_2, e22_5, e22_8, e22_9, e22_10, e22_13, e22_16, e22_17, e22_18, e22_21, e22_22, e22_25, e22_28, e22_29, e22_30, e22_33, e22_36, e22_37, gK0_eq, gK1_eq, gK3_eq, w32_id, bI_eq0, bI_eq1, Bool.false_eq_true, not_true_eq_false, not_false_eq_true, ne_eq, ite_not, ↓reduceIte, if_true, if_false, Int.reduceToNat, Nat.reduceAdd, Int.reduceEq, Int.reduceLT, Int.reduceLE, Int.reduceNeg, bI_T, bI_F, ↓if_pos, ↓if_neg, k_isDevice h, g1]
theorem c_pset {one other : Int} (h : gInv N μ) : cEq N μ (gE 22 0 [gO 9 0, gI one, gI other] []) (gE 247 0 [gO 10 167, gI one, gI other] []) := by
  obtain ⟨T, hk, ⟨hI, hb, hr, ht⟩, ok⟩ := gInv_T h
  obtain ⟨μ1, f, r, run⟩ := k_pset (one := one) (other := other) hI hr
  have fw : gFr 17 167 μ μ1 := gFr_mono f (by omega) (by omega)
  obtain ⟨x1, x2⟩ := xPt_X (gXe_fr fw)
  obtain ⟨g, run2⟩ := gE_fix (fun Q => s_partingSet (Q := Q) (b := 0) (T := T) (one := one) (other := other) (gIX_fr hI fw))
  exact cEq_s (T := T) (a := xPsA μ one other) h hk f r (tInv_mono ht) (ν := mH (gS μ1 167 2 0) g) (cFm_trans cFm2 cFm_mH) run (fun Q => by rw [run2 Q, mH_mK, x2])
theorem c_parting {one other : Int} (h : gInv N μ) : cEq N μ (gE 21 0 [gO 9 0, gI one, gI other, gX] []) (gE 246 0 [gO 10 167, gI one, gI other, gX] []) := by
  obtain ⟨T, hk, ⟨hI, hb, hr, ht⟩, ok⟩ := gInv_T h
  obtain ⟨μ1, f, r, run⟩ := k_pset (one := one) (other := other) hI hr
  have fw : gFr 17 167 μ μ1 := gFr_mono f (by omega) (by omega)
  obtain ⟨x1, x2⟩ := xPt_X (gXe_fr fw)
  obtain ⟨g, run2⟩ := gE_fix (fun Q => s_parting (Q := Q) (b := 0) (T := T) (one := one) (other := other) (gIX_fr hI fw))
  refine cEq_s (T := T) (a := xPtA μ one other) h hk f r (tInv_mono ht) (ν := mH (gS μ1 167 2 0) g) (cFm_trans cFm2 cFm_mH) (fun Q => ?_) (fun Q => by rw [run2 Q, mH_mK, x1])
  obtain ⟨pin, p64⟩ := xPas_in hI (one := one) (other := other)
  unfold xPsA at run
  unfold xPtA
  by_cases c : 0 ≤ one ∧ one < μ 167 12 ∧ 0 ≤ other ∧ other < μ 167 12 ∧ one ≠ other
  · rw [if_pos c]
    simp only [if_pos c] at run
    by_cases c2 : xPas μ one other < 0
    · have z : xPas μ one other = -2 := by omega
      rw [if_pos c2]
      rw [z] at run
      simp (disch := first | assumption | omega) only [e21_0, e21_1, e21_2, e21_3, e21_6, e21_7, e21_8, e21_11, e21_12, e21_15, e21_16, e21_19, gK0_eq, gK1_eq, gK3_eq, w32_id, bI_eq0, bI_eq1, Bool.false_eq_true, not_true_eq_false, not_false_eq_true, ne_eq, ite_not, ↓reduceIte, if_true, if_false, Int.reduceToNat, Nat.reduceAdd, Int.reduceEq, Int.reduceLT, Int.reduceLE, Int.reduceNeg, bI_T, bI_F, ↓if_pos, ↓if_neg, run]
    · have b0 : 0 ≤ xPas μ one other ∧ xPas μ one other < 256 := by omega
      have b1 : 0 ≤ xPas μ one other := b0.1
      rw [if_neg c2]
      simp (disch := first | assumption | omega) only [e21_0, e21_1, e21_2, e21_3, e21_6, e21_7, e21_8, e21_11, e21_12, e21_15, e21_16, e21_19, gK0_eq, gK1_eq, gK3_eq, w32_id, bI_eq0, bI_eq1, Bool.false_eq_true, not_true_eq_false, not_false_eq_true, ne_eq, ite_not, ↓reduceIte, if_true, if_false, Int.reduceToNat, Nat.reduceAdd, Int.reduceEq, Int.reduceLT, Int.reduceLE, Int.reduceNeg, bI_T, bI_F, ↓if_pos, ↓if_neg, run, c2, b1, k_bitCount b0]
  · rw [if_neg c]
    simp only [if_neg c] at run
    simp (disch := first | assumption | omega) only [e21_0, e21_1, e21_2, e21_3, e21_6, e21_7, e21_8, e21_11, e21_12, e21_15, e21_16, e21_19, gK0_eq, gK1_eq, gK3_eq, w32_id, bI_eq0, bI_eq1, Bool.false_eq_true, not_true_eq_false, not_false_eq_true, ne_eq, ite_not, ↓reduceIte, if_true, if_false, Int.reduceToNat, Nat.reduceAdd, Int.reduceEq, Int.reduceLT, Int.reduceLE, Int.reduceNeg, bI_T, bI_F, ↓if_pos, ↓if_neg, run]
end CALLS2
