/-! THE FIRST MEMORY -/
def m0 : Mem := fun k => if k < 210 then (if k % 70 = 0 then 1 else if k % 70 = 3 then 110 else if k % 70 = 5 then 1000 else if k % 70 = 14 then -1 else if 51 ≤ k % 70 ∧ k % 70 < 54 then -1 else 0) else if k < 300 then 0 else if k < 318 then (if k % 2 = 0 then -1 else 0) else if k < 3300 then 0 else if k < 3310 then ([111, 102, 102, 102, 101, 101, 102, 105, 110, 101] : List Int32).getD (k - 3300) 0 else if k < 3320 then 0 else if k < 3324 then ([0, 3, 6, 10] : List Int32).getD (k - 3320) 0 else if k < 3810 then 0 else if k < 3814 then -1 else if k = 4000 then 1 else if k = 4003 then 110 else if k = 4005 then 1000 else if k = 4014 then -1 else 0
theorem m0z {k : Nat} (h : (210 ≤ k ∧ k < 300) ∨ (318 ≤ k ∧ k < 3300) ∨ (3324 ≤ k ∧ k < 3810) ∨ (3814 ≤ k ∧ k < 4000) ∨ 4015 ≤ k) : m0 k = 0 := by
  unfold m0
  rw [if_neg (by omega)]
  by_cases h1 : k < 300
  · rw [if_pos h1]
  · rw [if_neg h1, if_neg (by omega)]
    by_cases h2 : k < 3300
    · rw [if_pos h2]
    · rw [if_neg h2, if_neg (by omega), if_neg (by omega), if_neg (by omega)]
      by_cases h3 : k < 3810
      · rw [if_pos h3]
      · rw [if_neg h3, if_neg (by omega), if_neg (by omega), if_neg (by omega), if_neg (by omega), if_neg (by omega)]
theorem okCell0 : okCell 0 := Or.inr ⟨by decide, by decide⟩
theorem inv_m0 : Inv m0 := by
  refine ⟨0, 0, fun k => m0 k, fun k => m0 (4000 + k), (fun _ => 0, fun _ => 0, fun _ => 0, fun _ _ => 0), ⟨fun k _ => rfl, fun k _ => rfl, ?_, ⟨by decide, by decide, fun v hv => absurd hv (Nat.not_lt_zero v), ⟨1000, by decide, by decide⟩, ⟨0, 0, 0, 0, by decide, by decide, by decide, by decide, by decide, by decide, by decide, by decide⟩⟩, fun v hv => absurd hv (Nat.not_lt_zero v)⟩, ⟨by decide, ?_⟩, ⟨by decide, fun t ht => absurd ht (Nat.not_lt_zero t), fun t ht => absurd ht (Nat.not_lt_zero t), fun t ht => absurd ht (Nat.not_lt_zero t)⟩, ⟨by decide, Or.inl (by decide)⟩, ⟨0, by decide, by decide, by decide, fun k hk => absurd hk (Nat.not_lt_zero k)⟩, ?_, ?_, ⟨0, by decide, by decide, by decide, fun k hk => absurd hk (Nat.not_lt_zero k)⟩, by unfold KST; decide⟩
  · have d : ∀ q, q < 16 → m0 (4000 + q) = m0 q := by decide
    exact fun q hq => d q (by omega)
  · have d : ∀ key, key < 3 → m0 (51 + key) = -1 := by decide
    exact fun key hk => d key hk
  · intro s hs
    have d : ∀ s, s < 4 → m0 (hf s 0) = -1 ∧ m0 (3810 + s) = -1 ∧ m0 (hf s 1) = 0 ∧ m0 (3820 + s) = 0 := by decide
    obtain ⟨d1, d2, d3, d4⟩ := d s hs
    refine ⟨Or.inl d1, by rw [d1, d2], ⟨0, by decide, d3, d4⟩, fun k hk => ?_⟩
    rw [m0z (k := 3830 + 24 * s + k) (by omega), m0z (k := 500 + 24 * s + k) (by omega)]
    exact ⟨rfl, okCell0⟩
  · intro j hj
    have d : ∀ j, j < 5 → m0 (lf j 0) = 0 ∧ m0 (3930 + j) = 0 := by decide
    obtain ⟨d1, d2⟩ := d j hj
    exact ⟨0, by decide, d1, d2, fun h => absurd h (by decide), fun h => absurd h (by decide), fun h => absurd h (by decide)⟩
