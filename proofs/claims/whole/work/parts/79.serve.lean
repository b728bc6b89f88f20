/-! the class: its state: serve -/
def aG (T T' : Int → Int) : Prop := ∀ j, j < 1881 → T' j = T j
section SERVE
variable {B C : Nat} {X μ μ' : gM} {T T' : Int → Int} {Q : Int → gM → Prop}
theorem aG_tS {k v : Int} (h : aG T T') : aG (tS T k v) (tS T' k v) := fun j hj => by
  unfold tS
  split
  · rfl
  · exact h j hj
theorem aG_mor {k : Int} (h : aG T T') (hk : k < 1881) : aG (tMor T k) (tMor T' k) := by
  unfold tMor
  rw [h k hk]
  exact aG_tS h
theorem aG_drop {k : Int} (h : aG T T') (hC : T 1813 ≤ 16) : aG (tDrop T k) (tDrop T' k) := by
  unfold tDrop
  rw [h 1813 (by omega)]
  apply aG_tS
  intro j hj
  unfold tShL
  split
  · exact h _ (by omega)
  · exact h j hj
theorem aG_cch {d p f r : Int} (h : aG T T') : aG (tCch T d p f r) (tCch T' d p f r) := by
  unfold tCch
  rw [h 1813 (by omega)]
  exact aG_tS (aG_tS (aG_tS (aG_tS (aG_tS h))))
theorem aG_ent {d p : Int} (h : aG T T') (hC : 0 ≤ T 1813 ∧ T 1813 ≤ 16) : tEnt T' d p = tEnt T d p := by
  unfold tEnt
  rw [h 1813 (by omega)]
  exact findF_congr _ _ (fun i i0 i1 => by rw [h _ (by omega), h _ (by omega)])
theorem aG_hit {d p r : Int} (h : aG T T') (hC : 0 ≤ T 1813 ∧ T 1813 ≤ 16) : tHit T' d p r = tHit T d p r := by
  have e := (tEnt_lt (T := T) (d := d) (p := p) hC.1).1
  unfold tHit
  rw [aG_ent h hC, h _ (by omega)]
theorem aG_lkV {room d p : Int} (h : aG T T') (hC : 0 ≤ T 1813 ∧ T 1813 ≤ 16) : aG (tLkV T room d p) (tLkV T' room d p) := by
  unfold tLkV
  rw [aG_ent h hC, h 1813 (by omega)]
  split
  · exact aG_drop h hC.2
  · split
    · exact aG_drop h hC.2
    · exact h
theorem aG_lkT {room d p r : Int} (h : aG T T') (hC : 0 ≤ T 1813 ∧ T 1813 ≤ 16) (hd : 0 ≤ d ∧ d < 4) (hp : 0 ≤ p ∧ p < 64) : aG (tLkT T room d p r) (tLkT T' room d p r) := by
  have e := (tEnt_lt (T := T) (d := d) (p := p) hC.1).1
  have m := aG_mor (k := 1879) h (by omega)
  have hC1 : 0 ≤ tMor T 1879 1813 ∧ tMor T 1879 1813 ≤ 16 := by rw [tMor_ne (by omega)]; exact hC
  unfold tLkT tLkH
  rw [aG_hit h hC, aG_ent h hC, h (1814 + 4 * tEnt T d p + 2) (by omega), h (1814 + 4 * tEnt T d p + 3) (by omega), tAs_congr (T := T) hd hp (fun j hj => h j (by omega)), h (64 * d + p) (by omega), h (256 + 64 * d + p) (by omega)]
  have w : tWok T' d p r = tWok T d p r := by
    unfold tWok
    rw [tMp_congr (h _ (by omega)), h (256 + 64 * d + p) (by omega)]
  rw [w]
  split
  · split
    · exact aG_mor (aG_cch (aG_drop h hC.2)) (by omega)
    · exact aG_mor (aG_mor (aG_cch (aG_drop h hC.2)) (by omega)) (by omega)
  · split
    · exact aG_cch (aG_lkV m hC1)
    · exact m
theorem aG_lkF {d p r : Int} (h : aG T T') (hC : 0 ≤ T 1813 ∧ T 1813 ≤ 16) (hd : 0 ≤ d ∧ d < 4) (hp : 0 ≤ p ∧ p < 64) : tLkF T' d p r = tLkF T d p r := by
  have e := (tEnt_lt (T := T) (d := d) (p := p) hC.1).1
  unfold tLkF tWok
  rw [aG_hit h hC, aG_ent h hC, h (1814 + 4 * tEnt T d p + 2) (by omega), tMp_congr (h _ (by omega)), h (256 + 64 * d + p) (by omega), h (64 * d + p) (by omega)]
/-- the check's state beside the class's, request by request -/
def tSI (T0 Ts Tc : Int → Int) (bt i k tk fl : Int) : Prop :=
  (0 ≤ i ∧ 0 ≤ k ∧ k ≤ i ∧ 0 ≤ tk ∧ tk ≤ i ∧ 0 ≤ fl ∧ fl ≤ i) ∧ (0 ≤ Ts 1881 ∧ Ts 1881 ≤ 8) ∧
  (tL Ts = ((tL T0).take i.toNat).filter (fun r => !decide (r.2.2.2 = bt)) ++ (tL T0).drop i.toNat ∧ (((tL T0).take i.toNat).filter (fun r => !decide (r.2.2.2 = bt))).length = k.toNat) ∧
  aG Tc Ts ∧ (∀ j, 1914 ≤ j → j ≠ 1916 → j ≠ 1917 → Ts j = T0 j) ∧ (∀ j, j < 1813 ∨ 1881 ≤ j → Tc j = T0 j) ∧
  Ts 1916 = wN tk.toNat (T0 1916) ∧ Ts 1917 = wN fl.toNat (T0 1917)
theorem tSI_row {T0 Ts Tc : Int → Int} {bt i k tk fl : Int} (h : tSI T0 Ts Tc bt i k tk fl) (hi : i < T0 1881) : k < Ts 1881 ∧ tRw4 Ts k = tRw4 T0 i := by
  obtain ⟨⟨a1, a2, a3, -⟩, w, ⟨l1, l2⟩, -⟩ := h
  have n0 : i.toNat < (tL T0).length := by rw [tL_len]; omega
  have len : (tL Ts).length = k.toNat + ((tL T0).length - i.toNat) := by rw [l1, List.length_append, l2, List.length_drop]
  have hk : k.toNat < (tL Ts).length := by omega
  refine ⟨by rw [tL_len] at hk; omega, ?_⟩
  have e : (tL Ts)[k.toNat] = (tL T0)[i.toNat] := by
    simp only [l1]
    rw [List.getElem_append_right (by omega)]
    simp only [l2, Nat.sub_self, List.getElem_drop, Nat.add_zero]
  rw [tL_get hk, tL_get n0, show ((k.toNat : Nat) : Int) = k by omega, show ((i.toNat : Nat) : Int) = i by omega] at e
  exact e
theorem tSI_keep {T0 Ts Tc : Int → Int} {bt i k tk fl : Int} (h : tSI T0 Ts Tc bt i k tk fl) (hi : i < T0 1881) (hb : T0 (1882 + 4 * i + 3) ≠ bt) : tSI T0 Ts Tc bt (i + 1) (k + 1) tk fl := by
  obtain ⟨⟨a1, a2, a3, a4, a5, a6, a7⟩, w, ⟨l1, l2⟩, rest⟩ := h
  have n0 : i.toNat < (tL T0).length := by rw [tL_len]; omega
  have e1 : (i + 1).toNat = i.toNat + 1 := by omega
  have g : (tL T0)[i.toNat] = tRw4 T0 i := by rw [tL_get n0, show ((i.toNat : Nat) : Int) = i by omega]
  have q : (!decide ((tRw4 T0 i).2.2.2 = bt)) = true := by unfold tRw4; simp [hb]
  have f : ((tL T0).take (i.toNat + 1)).filter (fun r => !decide (r.2.2.2 = bt)) = ((tL T0).take i.toNat).filter (fun r => !decide (r.2.2.2 = bt)) ++ [tRw4 T0 i] := by
    rw [List.take_succ_eq_append_getElem n0, g, List.filter_append]
    congr 1
    simp only [List.filter_cons, q, if_true, List.filter_nil]
  refine ⟨⟨by omega, by omega, by omega, a4, by omega, a6, by omega⟩, w, ⟨?_, ?_⟩, rest⟩
  · rw [e1, f, l1, List.append_assoc]
    congr 1
    rw [List.drop_eq_getElem_cons n0, g]
    rfl
  · rw [e1, f, List.length_append, l2]
    simp only [List.length_cons, List.length_nil]
    omega
theorem tSI_go {T0 Ts Tc Tc' Tl : Int → Int} {bt i k tk fl c tk' fl' : Int} (h : tSI T0 Ts Tc bt i k tk fl) (hi : i < T0 1881) (hb : T0 (1882 + 4 * i + 3) = bt) (hl : aG Tc' Tl) (hh : ∀ j, 1881 ≤ j → Tl j = Ts j) (hc' : ∀ j, j < 1813 ∨ 1881 ≤ j → Tc' j = T0 j)
    (hcc : (c = 1916 ∧ tk' = tk + 1 ∧ fl' = fl) ∨ (c = 1917 ∧ tk' = tk ∧ fl' = fl + 1)) : tSI T0 (tMor (tReqG Tl k) c) Tc' bt (i + 1) k tk' fl' := by
  have kr := tSI_row h hi
  obtain ⟨⟨a1, a2, a3, a4, a5, a6, a7⟩, w, ⟨l1, l2⟩, g1, g2, g3, g4, g5⟩ := h
  have n0 : i.toNat < (tL T0).length := by rw [tL_len]; omega
  have e1 : (i + 1).toNat = i.toNat + 1 := by omega
  have g : (tL T0)[i.toNat] = tRw4 T0 i := by rw [tL_get n0, show ((i.toNat : Nat) : Int) = i by omega]
  have q : (!decide ((tRw4 T0 i).2.2.2 = bt)) = false := by unfold tRw4; simp [hb]
  have f : ((tL T0).take (i.toNat + 1)).filter (fun r => !decide (r.2.2.2 = bt)) = ((tL T0).take i.toNat).filter (fun r => !decide (r.2.2.2 = bt)) := by
    rw [List.take_succ_eq_append_getElem n0, g, List.filter_append]
    simp only [List.filter_cons, q, Bool.false_eq_true, if_false, List.filter_nil, List.append_nil]
  have h81 : Tl 1881 = Ts 1881 := hh _ (by omega)
  have r81 : tReqG Tl k 1881 = Ts 1881 - 1 := by rw [tReqG_1881, h81]
  have lo : ∀ j, j < 1881 ∨ 1914 ≤ j → tReqG Tl k j = Tl j := fun j hj => tReqG_lo hj a2 (by omega)
  refine ⟨⟨by omega, a2, by omega, by omega, by omega, by omega, by omega⟩, by rw [tMor_ne (by omega), r81]; omega, ⟨?_, by rw [e1, f]; exact l2⟩, fun j hj => ?_, fun j j0 j1 j2 => ?_, hc', ?_, ?_⟩
  · have s1 : tL (tMor (tReqG Tl k) c) = tL (tReqG Tl k) := tL_congr (fun j _ _ => tMor_ne (by omega)) (by omega)
    have s2 : tL (tReqG Tl (k.toNat : Nat)) = (tL Tl).eraseIdx k.toNat := tL_go (by omega) (by omega)
    rw [show ((k.toNat : Nat) : Int) = k by omega] at s2
    have s3 : tL Tl = tL Ts := tL_congr (fun j j0 _ => hh j j0) (by omega)
    rw [s1, s2, s3, l1, e1, f, List.eraseIdx_append_of_length_le (by omega)]
    congr 1
    rw [l2, Nat.sub_self, List.drop_eq_getElem_cons n0]
    rfl
  · rw [tMor_ne (by omega), lo j (by omega)]
    exact hl j hj
  · rw [tMor_ne (by omega), lo j (by omega), hh j (by omega)]
    exact g2 j j0 j1 j2
  · rcases hcc with ⟨rfl, rfl, rfl⟩ | ⟨rfl, rfl, rfl⟩
    · unfold tMor
      rw [tS_same, lo _ (by omega), hh _ (by omega), g4, show (tk + 1).toNat = 1 + tk.toNat by omega, ← wN_add tk.toNat 1]
      have : ∀ (n : Nat) (v : Int), w32 (wN n v + 1) = wN n (w32 (v + 1)) := by
        intro n
        induction n with
        | zero => intro v; rfl
        | succ n ih => intro v; rw [wN, wN, ih]
      rw [this]; rfl
    · rw [tMor_ne (by omega), lo _ (by omega), hh _ (by omega)]
      exact g4
  · rcases hcc with ⟨rfl, rfl, rfl⟩ | ⟨rfl, rfl, rfl⟩
    · rw [tMor_ne (by omega), lo _ (by omega), hh _ (by omega)]
      exact g5
    · unfold tMor
      rw [tS_same, lo _ (by omega), hh _ (by omega), g5, show (fl + 1).toNat = 1 + fl.toNat by omega, ← wN_add fl.toNat 1]
      have : ∀ (n : Nat) (v : Int), w32 (wN n v + 1) = wN n (w32 (v + 1)) := by
        intro n
        induction n with
        | zero => intro v; rfl
        | succ n ih => intro v; rw [wN, wN, ih]
      rw [this]; rfl
theorem k_srv_loop {T0 : Int → Int} {bt : Int} {well : Bool} (hI : gIX X) (hO : tRqO (fun e => X 179 e) (X 167 12) T0) : ∀ (n : Nat) (i k tk fl : Int) (Ts Tc : Int → Int) (μ : gM) (l6 : gv), rSt B X Tc μ → tSI T0 Ts Tc bt i k tk fl → i + n = T0 1881 →
    ∃ (Tc' : Int → Int) (μ' : gM) (k' fl' : Int) (l6' : gv), gFr B (B + 50) μ μ' ∧ rSt B X Tc' μ' ∧ tSI T0 (tSrv (X 178 0) (fun e => X 179 e) well bt n k tk Ts).2 Tc' bt (T0 1881) k' (tSrv (X 178 0) (fun e => X 179 e) well bt n k tk Ts).1 fl' ∧
      ∀ Q : Int → gM → Prop, gE 201 23 [gO 6 B, gI (bI (well = true)), gI bt, gI tk, gI fl, gI i, l6] [] μ Q = gE 201 128 [gO 6 B, gI (bI (well = true)), gI bt, gI (tSrv (X 178 0) (fun e => X 179 e) well bt n k tk Ts).1, gI fl', gI (T0 1881), l6'] [] μ' Q := by
  have n2 := hI.2.1
  intro n
  induction n with
  | zero =>
    intro i k tk fl Ts Tc μ l6 h hS hi
    have ei : i = T0 1881 := by omega
    have c81 : Tc 1881 = T0 1881 := hS.2.2.2.2.2.1 _ (by omega)
    have h0 := h.2.2.2.2.2.1.2.2.1
    rw [c81] at h0
    have c : T0 1881 ≤ i := by omega
    rw [tSrv]
    rw [ei] at hS
    refine ⟨Tc, μ, k, fl, l6, gFr_refl, h, hS, fun Q => ?_⟩
    rw [e201_23]
    simp (disch := first | assumption | omega) only [e201_0, e201_1, e201_4, e201_7, e201_8, e201_9, e201_12, e201_14, e201_15, e201_16, e201_17, e201_18, e201_20, e201_21, e201_25, e201_26, e201_29, e201_32, e201_35, e201_36, e201_39, e201_42, e201_44, e201_47, e201_48, e201_51, e201_54, e201_55, e201_58, e201_59, e201_62, e201_65, e201_67, e201_70, e201_73, e201_75, e201_76, e201_79, e201_80, e201_82, e201_83, e201_86, e201_89, e201_91, e201_94, e201_95, e201_98, e201_101, e201_103, e201_106, e201_109, e201_110, e201_113, e201_116, e201_119, e201_122, e201_125, e201_129, e201_132, e201_133, e201_136, e201_137, e201_140, e201_141, e201_144, e201_145, e201_146, e201_149, e201_150, e201_153, e201_154, e201_157, e201_159, e201_160, e201_163, e201_164, gK0_eq, gK1_eq, gK3_eq, w32_id, bI_eq0, bI_eq1, Bool.false_eq_true, not_true_eq_false, not_false_eq_true, ne_eq, ite_not, ↓reduceIte, if_true, if_false, Int.reduceToNat, Nat.reduceAdd, Int.reduceEq, Int.reduceLT, Int.reduceLE, Int.reduceNeg, bI_T, bI_F, ↓if_pos, ↓if_neg, h0, c]
    rw [ei]
  | succ n ih =>
    intro i k tk fl Ts Tc μ l6 h hS hi
    have hS' := hS
    obtain ⟨⟨a1, a2, a3, a4, a5, a6, a7⟩, w, -, g1, g2, g3, g4, g5⟩ := hS'
    have il : i < T0 1881 := by omega
    have c81 : Tc 1881 = T0 1881 := g3 _ (by omega)
    have h0 := h.2.2.2.2.2.1.2.2.1
    rw [c81] at h0
    have c : ¬ T0 1881 ≤ i := by omega
    have hW := hO.2.1
    obtain ⟨k1, row⟩ := tSI_row hS il
    unfold tRw4 at row
    rw [Prod.mk.injEq, Prod.mk.injEq, Prod.mk.injEq] at row
    obtain ⟨r1, r2, r3, r4⟩ := row
    obtain ⟨b1, b2, b3, b4⟩ := h.2.2.2.2.2.1.2.2.2.2.2.2.2 i a1 (by omega)
    rw [g3 _ (by omega)] at b1 b2 b3 b4
    obtain ⟨o1, o2, o3, o4, o5⟩ := hO.2.2 i a1 il
    have gd := gX8 hI (d := T0 (1882 + 4 * i)) (by omega)
    have bD := h.2.2.2.2.2.2.2 (T0 (1882 + 4 * i)) o1.1 o1.2
    rw [g3 _ (by omega)] at bD
    have i8 : i < ((8 : Nat) : Int) := by omega
    have d0 := o1.1
    have d8 : T0 (1882 + 4 * i) < ((8 : Nat) : Int) := by omega
    have hC : 0 ≤ Tc 1813 ∧ Tc 1813 ≤ 16 := ⟨h.2.2.2.2.1.1.1.1, by have := h.2.2.2.2.1.1.1.2.1; have := h.2.2.2.2.1.1.2.2; omega⟩
    have hCr : 0 ≤ Tc 1813 ∧ Tc 1813 ≤ X 178 0 := ⟨h.2.2.2.2.1.1.1.1, h.2.2.2.2.1.1.1.2.1⟩
    have hr := h.2.2.2.2.1.1.2
    have hasE : Ts (1673 + X 179 (Ts (1882 + 4 * k))) = T0 (1673 + X 179 (T0 (1882 + 4 * i))) := by rw [r1, g1 _ (by omega), g3 _ (by omega)]
    by_cases cb : T0 (1882 + 4 * i + 3) = bt
    · cases well with
      | false =>
        have fin : tSrv (X 178 0) (fun e => X 179 e) false bt (n + 1) k tk Ts = tSrv (X 178 0) (fun e => X 179 e) false bt n k tk (tMor (tReqG Ts k) 1917) := by
          rw [tSrv, if_pos (by rw [r4]; exact cb), if_neg Bool.noConfusion]
        have hS2 := tSI_go (Tc' := Tc) (Tl := Ts) (c := 1917) (tk' := tk) (fl' := fl + 1) hS il cb g1 (fun _ _ => rfl) g3 (Or.inr ⟨rfl, rfl, rfl⟩)
        obtain ⟨Tc', μ', k', fl', l6', f, r, s, run⟩ := ih (i + 1) k tk (fl + 1) _ Tc μ (gI (T0 (1673 + X 179 (T0 (1882 + 4 * i))))) h hS2 (by omega)
        rw [fin]
        refine ⟨Tc', μ', k', fl', l6', f, r, s, fun Q => ?_⟩
        rw [← run Q, e201_23]
        simp (disch := first | assumption | omega) only [e201_0, e201_1, e201_4, e201_7, e201_8, e201_9, e201_12, e201_14, e201_15, e201_16, e201_17, e201_18, e201_20, e201_21, e201_25, e201_26, e201_29, e201_32, e201_35, e201_36, e201_39, e201_42, e201_44, e201_47, e201_48, e201_51, e201_54, e201_55, e201_58, e201_59, e201_62, e201_65, e201_67, e201_70, e201_73, e201_75, e201_76, e201_79, e201_80, e201_82, e201_83, e201_86, e201_89, e201_91, e201_94, e201_95, e201_98, e201_101, e201_103, e201_106, e201_109, e201_110, e201_113, e201_116, e201_119, e201_122, e201_125, e201_129, e201_132, e201_133, e201_136, e201_137, e201_140, e201_141, e201_144, e201_145, e201_146, e201_149, e201_150, e201_153, e201_154, e201_157, e201_159, e201_160, e201_163, e201_164, gK0_eq, gK1_eq, gK3_eq, w32_id, bI_eq0, bI_eq1, Bool.false_eq_true, not_true_eq_false, not_false_eq_true, ne_eq, ite_not, ↓reduceIte, if_true, if_false, Int.reduceToNat, Nat.reduceAdd, Int.reduceEq, Int.reduceLT, Int.reduceLE, Int.reduceNeg, bI_T, bI_F, ↓if_pos, ↓if_neg, h0, c, s_at, atv_in, b1, b4, cb, bD]
      | true =>
        obtain ⟨μ1, f1, h1, run1⟩ := k_look (d := T0 (1673 + X 179 (T0 (1882 + 4 * i)))) (p := T0 (1882 + 4 * i + 1)) (r := T0 (1882 + 4 * i + 2)) hI h o5 o2
        have ag := aG_lkT (room := X 178 0) (r := T0 (1882 + 4 * i + 2)) g1 hC o5 o2
        have agF := aG_lkF (r := T0 (1882 + 4 * i + 2)) g1 hC o5 o2
        have s13 : 0 ≤ Ts 1813 ∧ Ts 1813 ≤ X 178 0 := by rw [g1 _ (by omega)]; exact hCr
        have hiS : ∀ j, 1881 ≤ j → tLkT Ts (X 178 0) (T0 (1673 + X 179 (T0 (1882 + 4 * i)))) (T0 (1882 + 4 * i + 1)) (T0 (1882 + 4 * i + 2)) j = Ts j := fun j hj => tLkT_lo (by omega) s13 hr
        have loC : ∀ j, j < 1813 ∨ 1881 ≤ j → tLkT Tc (X 178 0) (T0 (1673 + X 179 (T0 (1882 + 4 * i)))) (T0 (1882 + 4 * i + 1)) (T0 (1882 + 4 * i + 2)) j = T0 j := fun j hj => by rw [tLkT_lo hj hCr hr, g3 j hj]
        by_cases q : 0 ≤ tLkF Tc (T0 (1673 + X 179 (T0 (1882 + 4 * i)))) (T0 (1882 + 4 * i + 1)) (T0 (1882 + 4 * i + 2))
        · have q' : ¬ tLkF Tc (T0 (1673 + X 179 (T0 (1882 + 4 * i)))) (T0 (1882 + 4 * i + 1)) (T0 (1882 + 4 * i + 2)) = -1 := by omega
          have fin : tSrv (X 178 0) (fun e => X 179 e) true bt (n + 1) k tk Ts = tSrv (X 178 0) (fun e => X 179 e) true bt n k (tk + 1) (tMor (tReqG (tLkT Ts (X 178 0) (T0 (1673 + X 179 (T0 (1882 + 4 * i)))) (T0 (1882 + 4 * i + 1)) (T0 (1882 + 4 * i + 2))) k) 1916) := by
            rw [tSrv, if_pos (by rw [r4]; exact cb), if_pos rfl]
            rw [hasE, r2, r3, agF, if_pos q]
          have hS2 := tSI_go (c := 1916) (tk' := tk + 1) (fl' := fl) hS il cb ag hiS loC (Or.inl ⟨rfl, rfl, rfl⟩)
          obtain ⟨Tc', μ', k', fl', l6', f, r, s, run⟩ := ih (i + 1) k (tk + 1) fl _ _ μ1 (gI (T0 (1673 + X 179 (T0 (1882 + 4 * i))))) h1 hS2 (by omega)
          rw [fin]
          refine ⟨Tc', μ', k', fl', l6', gFr_trans f1 f, r, s, fun Q => ?_⟩
          rw [← run Q, e201_23]
          simp (disch := first | assumption | omega) only [e201_0, e201_1, e201_4, e201_7, e201_8, e201_9, e201_12, e201_14, e201_15, e201_16, e201_17, e201_18, e201_20, e201_21, e201_25, e201_26, e201_29, e201_32, e201_35, e201_36, e201_39, e201_42, e201_44, e201_47, e201_48, e201_51, e201_54, e201_55, e201_58, e201_59, e201_62, e201_65, e201_67, e201_70, e201_73, e201_75, e201_76, e201_79, e201_80, e201_82, e201_83, e201_86, e201_89, e201_91, e201_94, e201_95, e201_98, e201_101, e201_103, e201_106, e201_109, e201_110, e201_113, e201_116, e201_119, e201_122, e201_125, e201_129, e201_132, e201_133, e201_136, e201_137, e201_140, e201_141, e201_144, e201_145, e201_146, e201_149, e201_150, e201_153, e201_154, e201_157, e201_159, e201_160, e201_163, e201_164, gK0_eq, gK1_eq, gK3_eq, w32_id, bI_eq0, bI_eq1, Bool.false_eq_true, not_true_eq_false, not_false_eq_true, ne_eq, ite_not, ↓reduceIte, if_true, if_false, Int.reduceToNat, Nat.reduceAdd, Int.reduceEq, Int.reduceLT, Int.reduceLE, Int.reduceNeg, bI_T, bI_F, ↓if_pos, ↓if_neg, h0, c, s_at, atv_in, b1, b2, b3, b4, cb, bD, run1, q']
        · have q' : tLkF Tc (T0 (1673 + X 179 (T0 (1882 + 4 * i)))) (T0 (1882 + 4 * i + 1)) (T0 (1882 + 4 * i + 2)) = -1 := by
            have e := tEnt_lt (T := Tc) (d := T0 (1673 + X 179 (T0 (1882 + 4 * i)))) (p := T0 (1882 + 4 * i + 1)) hC.1
            cases hh : tHit Tc (T0 (1673 + X 179 (T0 (1882 + 4 * i)))) (T0 (1882 + 4 * i + 1)) (T0 (1882 + 4 * i + 2)) with
            | true =>
              have u := (h.2.2.2.2.1.1.1.2.2.1 _ (tHit_ent hh) e.1).2.2.1
              unfold tLkF at q
              rw [hh, if_pos rfl] at q
              omega
            | false =>
              unfold tLkF at q ⊢
              rw [hh, if_neg (c := false = true) Bool.noConfusion] at q ⊢
              cases hw : tWok Tc (T0 (1673 + X 179 (T0 (1882 + 4 * i)))) (T0 (1882 + 4 * i + 1)) (T0 (1882 + 4 * i + 2)) with
              | true =>
                rw [hw, if_pos rfl] at q
                unfold tWok tMp at hw
                rw [Bool.and_eq_true, decide_eq_true_eq] at hw
                omega
              | false => rw [if_neg (c := false = true) Bool.noConfusion]
          have fin : tSrv (X 178 0) (fun e => X 179 e) true bt (n + 1) k tk Ts = tSrv (X 178 0) (fun e => X 179 e) true bt n k tk (tMor (tReqG (tLkT Ts (X 178 0) (T0 (1673 + X 179 (T0 (1882 + 4 * i)))) (T0 (1882 + 4 * i + 1)) (T0 (1882 + 4 * i + 2))) k) 1917) := by
            rw [tSrv, if_pos (by rw [r4]; exact cb), if_pos rfl]
            rw [hasE, r2, r3, agF, if_neg q]
          have hS2 := tSI_go (c := 1917) (tk' := tk) (fl' := fl + 1) hS il cb ag hiS loC (Or.inr ⟨rfl, rfl, rfl⟩)
          obtain ⟨Tc', μ', k', fl', l6', f, r, s, run⟩ := ih (i + 1) k tk (fl + 1) _ _ μ1 (gI (T0 (1673 + X 179 (T0 (1882 + 4 * i))))) h1 hS2 (by omega)
          rw [fin]
          refine ⟨Tc', μ', k', fl', l6', gFr_trans f1 f, r, s, fun Q => ?_⟩
          rw [← run Q, e201_23]
          simp (disch := first | assumption | omega) only [e201_0, e201_1, e201_4, e201_7, e201_8, e201_9, e201_12, e201_14, e201_15, e201_16, e201_17, e201_18, e201_20, e201_21, e201_25, e201_26, e201_29, e201_32, e201_35, e201_36, e201_39, e201_42, e201_44, e201_47, e201_48, e201_51, e201_54, e201_55, e201_58, e201_59, e201_62, e201_65, e201_67, e201_70, e201_73, e201_75, e201_76, e201_79, e201_80, e201_82, e201_83, e201_86, e201_89, e201_91, e201_94, e201_95, e201_98, e201_101, e201_103, e201_106, e201_109, e201_110, e201_113, e201_116, e201_119, e201_122, e201_125, e201_129, e201_132, e201_133, e201_136, e201_137, e201_140, e201_141, e201_144, e201_145, e201_146, e201_149, e201_150, e201_153, e201_154, e201_157, e201_159, e201_160, e201_163, e201_164, gK0_eq, gK1_eq, gK3_eq, w32_id, bI_eq0, bI_eq1, Bool.false_eq_true, not_true_eq_false, not_false_eq_true, ne_eq, ite_not, ↓reduceIte, if_true, if_false, Int.reduceToNat, Nat.reduceAdd, Int.reduceEq, Int.reduceLT, Int.reduceLE, Int.reduceNeg, bI_T, bI_F, ↓if_pos, ↓if_neg, h0, c, s_at, atv_in, b1, b2, b3, b4, cb, bD, run1, q']
    · have fin : tSrv (X 178 0) (fun e => X 179 e) well bt (n + 1) k tk Ts = tSrv (X 178 0) (fun e => X 179 e) well bt n (k + 1) tk Ts := by
        rw [tSrv, if_neg (by rw [r4]; exact cb)]
      obtain ⟨Tc', μ', k', fl', l6', f, r, s, run⟩ := ih (i + 1) (k + 1) tk fl Ts Tc μ l6 h (tSI_keep hS il cb) (by omega)
      rw [fin]
      refine ⟨Tc', μ', k', fl', l6', f, r, s, fun Q => ?_⟩
      rw [← run Q, e201_23]
      simp (disch := first | assumption | omega) only [e201_0, e201_1, e201_4, e201_7, e201_8, e201_9, e201_12, e201_14, e201_15, e201_16, e201_17, e201_18, e201_20, e201_21, e201_25, e201_26, e201_29, e201_32, e201_35, e201_36, e201_39, e201_42, e201_44, e201_47, e201_48, e201_51, e201_54, e201_55, e201_58, e201_59, e201_62, e201_65, e201_67, e201_70, e201_73, e201_75, e201_76, e201_79, e201_80, e201_82, e201_83, e201_86, e201_89, e201_91, e201_94, e201_95, e201_98, e201_101, e201_103, e201_106, e201_109, e201_110, e201_113, e201_116, e201_119, e201_122, e201_125, e201_129, e201_132, e201_133, e201_136, e201_137, e201_140, e201_141, e201_144, e201_145, e201_146, e201_149, e201_150, e201_153, e201_154, e201_157, e201_159, e201_160, e201_163, e201_164, gK0_eq, gK1_eq, gK3_eq, w32_id, bI_eq0, bI_eq1, Bool.false_eq_true, not_true_eq_false, not_false_eq_true, ne_eq, ite_not, ↓reduceIte, if_true, if_false, Int.reduceToNat, Nat.reduceAdd, Int.reduceEq, Int.reduceLT, Int.reduceLE, Int.reduceNeg, bI_T, bI_F, ↓if_pos, ↓if_neg, h0, c, s_at, atv_in, b4, cb]
theorem rRq_cnt {x : Nat} {a b : Int} (h : rRq x T μ) : rRq x (tS (tS T 1916 (w32 a)) 1917 (w32 b)) (gS (gS μ x 7 (w32 a)) x 8 (w32 b)) := by
  obtain ⟨hl, hb, h0, h5, h6, h7, h8, hr⟩ := h
  have lo : ∀ j, j < 1916 → tS (tS T 1916 (w32 a)) 1917 (w32 b) j = T j := fun j hj => by rw [tS_ne (by omega), tS_ne (by omega)]
  refine ⟨by rw [lo _ (by omega)]; exact hl, by rw [tS_ne (show (1916 : Int) ≠ 1917 by omega), tS_same, tS_same]; exact ⟨w32_in, w32_in⟩, ?_, ?_, ?_, ?_, ?_, fun i i0 i1 => ?_⟩
  · rw [lo _ (by omega), gS_neI (by omega), gS_neI (by omega)]; exact h0
  · rw [lo _ (by omega), gS_neI (by omega), gS_neI (by omega)]; exact h5
  · rw [lo _ (by omega), gS_neI (by omega), gS_neI (by omega)]; exact h6
  · rw [tS_ne (by omega), tS_same, gS_neI (by omega), gS_same]
  · rw [tS_same, gS_same]
  · rw [lo _ (by omega)] at i1
    rw [lo _ (by omega), lo _ (by omega), lo _ (by omega), lo _ (by omega)]
    simp (disch := first | assumption | omega) only [gS_neK]
    exact hr i i0 i1
theorem k_serve {well : Bool} (hI : gIX X) (h : rSt B X T μ) (hO : tRqO (fun e => X 179 e) (X 167 12) T) : ∃ μ', gFr B (B + 50) μ μ' ∧ rSt B X (tSvT (X 178 0) (fun e => X 179 e) well T) μ' ∧ (tFirB T ≠ 0 → tL (tSvT (X 178 0) (fun e => X 179 e) well T) = (tL T).filter (fun r => !decide (r.2.2.2 = tFirB T))) ∧ ∀ Q : Int → gM → Prop, gE 201 0 [gO 6 B, gI (bI (well = true)), gX, gX, gX, gX, gX] [] μ Q = Q (tSvA (X 178 0) (fun e => X 179 e) well T) μ' := by
  have hn : tBnn T := fun k k0 k1 => (hO.2.2 k k0 k1).2.2.2.1
  unfold tSvT tSvA
  by_cases c : tFirB T = 0
  · rw [if_pos c, if_pos c]
    refine ⟨μ, gFr_refl, h, fun z => absurd c z, fun Q => ?_⟩
    simp (disch := first | assumption | omega) only [e201_0, e201_1, e201_4, e201_7, e201_8, e201_9, e201_12, e201_14, e201_15, e201_16, e201_17, e201_18, e201_20, e201_21, e201_25, e201_26, e201_29, e201_32, e201_35, e201_36, e201_39, e201_42, e201_44, e201_47, e201_48, e201_51, e201_54, e201_55, e201_58, e201_59, e201_62, e201_65, e201_67, e201_70, e201_73, e201_75, e201_76, e201_79, e201_80, e201_82, e201_83, e201_86, e201_89, e201_91, e201_94, e201_95, e201_98, e201_101, e201_103, e201_106, e201_109, e201_110, e201_113, e201_116, e201_119, e201_122, e201_125, e201_129, e201_132, e201_133, e201_136, e201_137, e201_140, e201_141, e201_144, e201_145, e201_146, e201_149, e201_150, e201_153, e201_154, e201_157, e201_159, e201_160, e201_163, e201_164, gK0_eq, gK1_eq, gK3_eq, w32_id, bI_eq0, bI_eq1, Bool.false_eq_true, not_true_eq_false, not_false_eq_true, ne_eq, ite_not, ↓reduceIte, if_true, if_false, Int.reduceToNat, Nat.reduceAdd, Int.reduceEq, Int.reduceLT, Int.reduceLE, Int.reduceNeg, bI_T, bI_F, ↓if_pos, ↓if_neg, k_RfirstBatch h.2.2.2.2.2.1 hn, c]
  · rw [if_neg c, if_neg c]
    have hW := h.2.2.2.2.2.1.1
    have h32 := h.2.2.2.2.2.1.2.1
    obtain ⟨Tc, μ1, k', fl', l6', f1, h1, s1, run1⟩ := k_srv_loop (bt := tFirB T) (well := well) hI hO (T 1881).toNat 0 0 0 0 T T μ gX h ⟨by omega, hW, ⟨by simp, by simp⟩, fun _ _ => rfl, fun _ _ _ _ => rfl, fun _ _ => rfl, rfl, rfl⟩ (by omega)
    generalize hR : tSrv (X 178 0) (fun e => X 179 e) well (tFirB T) (T 1881).toNat 0 0 T = R at *
    obtain ⟨⟨a1, a2, a3, a4, a5, a6, a7⟩, w, ⟨l1, l2⟩, g1, g2, g3, g4, g5⟩ := s1
    obtain ⟨μ2, f2, q2, run2⟩ := k_RremoveBatch (e := tFirB T) h1.2.2.2.2.2.1
    have c81 : Tc 1881 = T 1881 := g3 _ (by omega)
    obtain ⟨m1, m2, m3, m4⟩ := tRmG_all (P := fun r => decide (r.2.2.2 = tFirB T)) (c := false) (Tc 1881).toNat Tc (by omega) (by omega)
    have mf := tRmG_full (T := Tc) (P := fun r => decide (r.2.2.2 = tFirB T)) (c := false) (by omega) (by omega)
    rw [← tRmB_G] at m2 m3 mf
    have e16 : tRmB (tFirB T) (Tc 1881).toNat Tc 1916 = T 1916 := by rw [m2 _ (by omega) (Or.inr rfl), g3 _ (by omega)]
    have e17 : tRmB (tFirB T) (Tc 1881).toNat Tc 1917 = T 1917 := by rw [m2 _ (by omega) (Or.inr rfl), g3 _ (by omega)]
    have q7 := q2.2.2.2.2.2.1
    have q8 := q2.2.2.2.2.2.2.1
    rw [e16] at q7
    rw [e17] at q8
    have q3 := rRq_cnt (a := T 1916 + R.1) (b := T 1917 + fl') q2
    have ff : gFr (B + 37) (B + 42) μ1 (gS (gS μ2 (B + 37) 7 (w32 (T 1916 + R.1))) (B + 37) 8 (w32 (T 1917 + fl'))) := gFr_gS (gFr_gS (gFr_mono f2 (by omega) (by omega)) (by omega) (by omega)) (by omega) (by omega)
    have lo : ∀ j, (j < 1881 ∨ 1914 ≤ j) → j ≠ 1916 → j ≠ 1917 → tS (tS (tRmB (tFirB T) (Tc 1881).toNat Tc) 1916 (w32 (T 1916 + R.1))) 1917 (w32 (T 1917 + fl')) j = Tc j := fun j hj n1 n2 => by
      rw [tS_ne n2, tS_ne n1, m2 j hj (Or.inr rfl)]
    have h3 : rSt B X (tS (tS (tRmB (tFirB T) (Tc 1881).toNat Tc) 1916 (w32 (T 1916 + R.1))) 1917 (w32 (T 1917 + fl'))) (gS (gS μ2 (B + 37) 7 (w32 (T 1916 + R.1))) (B + 37) 8 (w32 (T 1917 + fl'))) := ⟨rTr_fr hI h1.1 ff (by omega), rTb_fr h1.2.1 ff (by omega) (fun j hj => by exact lo j (by omega) (by omega) (by omega)), rFr_fr h1.2.2.1 ff (by omega) (fun j hj => by exact lo j (by omega) (by omega) (by omega)), rQu_fr h1.2.2.2.1 ff (by omega) (fun j j1 j2 => by exact lo j (by omega) (by omega) (by omega)), rCa_fr h1.2.2.2.2.1 ff (by omega) (fun j j1 j2 => by exact lo j (by omega) (by omega) (by omega)), q3, rLg_fr h1.2.2.2.2.2.2.1 ff (by omega) (fun j hj => by exact lo j (by omega) (by omega) (by omega)), rDm_fr hI h1.2.2.2.2.2.2.2 ff (by omega) (fun j j1 j2 => by exact lo j (by omega) (by omega) (by omega))⟩
    have tLc : tL Tc = tL T := tL_congr (fun j j0 _ => g3 j (by omega)) hW.2
    have len : (tL T).length = (T 1881).toNat := tL_len
    have E : tRqE (tS (tS (tRmB (tFirB T) (Tc 1881).toNat Tc) 1916 (w32 (T 1916 + R.1))) 1917 (w32 (T 1917 + fl'))) R.2 := by
      refine ⟨?_, ⟨by rw [tS_ne (by omega), tS_ne (by omega)]; exact m3.1, w.1⟩, fun j hj => ?_⟩
      · rw [tL_congr (T := tRmB (tFirB T) (Tc 1881).toNat Tc) (fun j _ _ => by rw [tS_ne (by omega), tS_ne (by omega)]) (by omega), mf, l1, tLc, List.take_of_length_le (by omega), List.drop_of_length_le (by omega), List.append_nil]
      · by_cases z6 : j = 1916
        · rw [z6, tS_ne (by omega), tS_same, g4, wN_w32 _ _ h32.1]
          congr 1
          omega
        · by_cases z7 : j = 1917
          · rw [z7, tS_same, g5, wN_w32 _ _ h32.2]
            congr 1
            omega
          · rw [lo j hj z6 z7]
            by_cases y : j < 1881
            · exact g1 j y
            · rw [g2 j (by omega) z6 z7, g3 j (by omega)]
    refine ⟨_, gFr_trans f1 (gFr_mono ff (by omega) (by omega)), rSt_eq hI h3 E, fun _ => by rw [l1, List.take_of_length_le (by omega), List.drop_of_length_le (by omega), List.append_nil], fun Q => ?_⟩
    simp (disch := first | assumption | omega) only [e201_0, e201_1, e201_4, e201_7, e201_8, e201_9, e201_12, e201_14, e201_15, e201_16, e201_17, e201_18, e201_20, e201_21, e201_25, e201_26, e201_29, e201_32, e201_35, e201_36, e201_39, e201_42, e201_44, e201_47, e201_48, e201_51, e201_54, e201_55, e201_58, e201_59, e201_62, e201_65, e201_67, e201_70, e201_73, e201_75, e201_76, e201_79, e201_80, e201_82, e201_83, e201_86, e201_89, e201_91, e201_94, e201_95, e201_98, e201_101, e201_103, e201_106, e201_109, e201_110, e201_113, e201_116, e201_119, e201_122, e201_125, e201_129, e201_132, e201_133, e201_136, e201_137, e201_140, e201_141, e201_144, e201_145, e201_146, e201_149, e201_150, e201_153, e201_154, e201_157, e201_159, e201_160, e201_163, e201_164, gK0_eq, gK1_eq, gK3_eq, w32_id, bI_eq0, bI_eq1, Bool.false_eq_true, not_true_eq_false, not_false_eq_true, ne_eq, ite_not, ↓reduceIte, if_true, if_false, Int.reduceToNat, Nat.reduceAdd, Int.reduceEq, Int.reduceLT, Int.reduceLE, Int.reduceNeg, bI_T, bI_F, ↓if_pos, ↓if_neg, k_RfirstBatch h.2.2.2.2.2.1 hn, c, run1]
    simp (disch := first | assumption | omega) only [e201_0, e201_1, e201_4, e201_7, e201_8, e201_9, e201_12, e201_14, e201_15, e201_16, e201_17, e201_18, e201_20, e201_21, e201_25, e201_26, e201_29, e201_32, e201_35, e201_36, e201_39, e201_42, e201_44, e201_47, e201_48, e201_51, e201_54, e201_55, e201_58, e201_59, e201_62, e201_65, e201_67, e201_70, e201_73, e201_75, e201_76, e201_79, e201_80, e201_82, e201_83, e201_86, e201_89, e201_91, e201_94, e201_95, e201_98, e201_101, e201_103, e201_106, e201_109, e201_110, e201_113, e201_116, e201_119, e201_122, e201_125, e201_128, e201_129, e201_132, e201_133, e201_136, e201_137, e201_140, e201_141, e201_144, e201_145, e201_146, e201_149, e201_150, e201_153, e201_154, e201_157, e201_159, e201_160, e201_163, e201_164, gK0_eq, gK1_eq, gK3_eq, w32_id, bI_eq0, bI_eq1, Bool.false_eq_true, not_true_eq_false, not_false_eq_true, ne_eq, ite_not, ↓reduceIte, if_true, if_false, Int.reduceToNat, Nat.reduceAdd, Int.reduceEq, Int.reduceLT, Int.reduceLE, Int.reduceNeg, bI_T, bI_F, ↓if_pos, ↓if_neg, run2, q7, q8, gS_neI]
end SERVE
