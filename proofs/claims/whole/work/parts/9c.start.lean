/-! the fresh objects: what the constructors leave couples both sides -/
section START
variable {μ ν : gM} {Q : Int → gM → Prop}
theorem rSt_Z {X : gM} (n11 : X 167 11 = 0) (n12 : X 167 12 = 0) (n13 : X 167 13 = 0) (n14 : X 167 14 = 0) (n20 : X 178 0 = 4) (n21 : X 178 1 = 0) (hz : ∀ (k : Nat) i, 18 ≤ k → k ≤ 65 → k ≠ 35 → ¬ (k = 18 ∧ i = 15) → μ k i = 0) (h15 : μ 18 15 = 4) (h35 : ∀ i, 0 ≤ i → i < 256 → μ 35 i = -1) : rSt 17 X tZ μ := by
  have z72 : tZ 1672 = 0 := tZ_0 (by omega) (by omega)
  have z13 : tZ 1813 = 0 := tZ_0 (by omega) (by omega)
  have z81 : tZ 1881 = 0 := tZ_0 (by omega) (by omega)
  have z18 : tZ 1918 = 0 := tZ_0 (by omega) (by omega)
  have z27 : tZ 1927 = 0 := tZ_0 (by omega) (by omega)
  have zq : tZ 1681 = 0 := tZ_0 (by omega) (by omega)
  have u : ∀ f, tUses tZ f = 0 := fun f => by
    unfold tUses
    rw [z72]
    rfl
  refine ⟨⟨⟨⟨?_, ?_, ?_, ?_, ?_, ?_⟩, fun i i0 i1 => by omega, fun i i0 i1 => by omega, fun i i0 i1 => by omega, fun i i0 i1 => by omega⟩, fun d d0 d1 => by omega⟩, ⟨by omega, ?_, fun d d0 d1 => ?_, fun i i0 i1 => ?_⟩, ⟨⟨⟨by omega, fun k k0 k1 _ => by rw [tZ_m (by omega)]; omega⟩, fun f w f0 f1 w0 w1 => by rw [tZ_0 (by omega) (by omega)]; exact in32_0⟩, fun f f0 f1 => ?_, fun f d f0 f1 d0 d1 => ?_⟩, ?_, ⟨⟨⟨by omega, by omega, fun k k0 k1 => by omega, fun i k i0 ik k1 => by omega⟩, by omega, by omega⟩, ?_, fun k k0 k1 => by omega⟩, ?_, ?_, fun d d0 d1 => by omega⟩
  · rw [n11]; exact hz _ _ (by omega) (by omega) (by omega) (by omega)
  · rw [n12]; exact hz _ _ (by omega) (by omega) (by omega) (by omega)
  · rw [n13]; exact hz _ _ (by omega) (by omega) (by omega) (by omega)
  · rw [n14]; exact hz _ _ (by omega) (by omega) (by omega) (by omega)
  · rw [n20]; exact h15
  · rw [n21]; exact hz _ _ (by omega) (by omega) (by omega) (by omega)
  · rw [z72]; exact hz _ _ (by omega) (by omega) (by omega) (by omega)
  · rw [tZ_0 (by omega) (by omega)]
    exact ⟨by omega, fun q => by omega, fun _ => rfl⟩
  · unfold rTi
    rw [tZ_m (by omega), tZ_0 (j := 512 + i) (by omega) (by omega), tZ_0 (j := 768 + i) (by omega) (by omega)]
    exact ⟨h35 i i0 i1, by omega, hz _ _ (by omega) (by omega) (by omega) (by omega), by omega, hz _ _ (by omega) (by omega) (by omega) (by omega), by omega, fun _ => ⟨hz _ _ (by omega) (by omega) (by omega) (by omega), rfl, rfl⟩, fun q => by omega⟩
  · rw [u, tZ_0 (by omega) (by omega), tZ_0 (by omega) (by omega)]
    exact ⟨hz _ _ (by omega) (by omega) (by omega) (by omega), hz _ _ (by omega) (by omega) (by omega) (by omega), by omega, hz _ _ (by omega) (by omega) (by omega) (by omega)⟩
  · rw [hz _ _ (by omega) (by omega) (by omega) (by omega)]
    refine ⟨by unfold in64; omega, fun p hp => ?_⟩
    unfold tOb
    rw [tZ_0 (by omega) (by omega), bt_zero, btl_zero]
  · obtain ⟨μ', f, r, run⟩ := k_Qclear (x := 44) (T := tZ) (μ := μ) (by omega) ⟨zq, tZ_0 (by omega) (by omega), tZ_0 (by omega) (by omega), tZ_0 (by omega) (by omega)⟩
    refine ⟨by omega, ?_, ?_, ?_, ?_, fun k k0 k1 => by omega⟩
    · rw [zq]; exact hz _ _ (by omega) (by omega) (by omega) (by omega)
    · rw [tZ_0 (by omega) (by omega)]; exact hz _ _ (by omega) (by omega) (by omega) (by omega)
    · rw [tZ_0 (by omega) (by omega)]; exact hz _ _ (by omega) (by omega) (by omega) (by omega)
    · rw [tZ_0 (by omega) (by omega)]; exact hz _ _ (by omega) (by omega) (by omega) (by omega)
  · rw [z13]; exact hz _ _ (by omega) (by omega) (by omega) (by omega)
  · refine ⟨by omega, ⟨by rw [tZ_0 (by omega) (by omega)]; exact in32_0, by rw [tZ_0 (by omega) (by omega)]; exact in32_0⟩, ?_, ?_, ?_, ?_, ?_, fun k k0 k1 => by omega⟩
    all_goals (rw [tZ_0 (by omega) (by omega)]; exact hz _ _ (by omega) (by omega) (by omega) (by omega))
  · refine ⟨by omega, by omega, ⟨?_, ?_, ?_, ?_, ?_⟩, fun k k0 k1 => by omega, fun k k0 k1 => by omega⟩
    all_goals (rw [tZ_0 (by omega) (by omega)]; exact hz _ _ (by omega) (by omega) (by omega) (by omega))
end START
