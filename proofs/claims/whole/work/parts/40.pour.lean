/-! PURE: pour -/
theorem op_rowF {m : Mem} {fX fM : Mem → Option (Int32 × Mem)} (hI : Inv m) (h : ∀ (n N : Nat) (σ : Row) (X : TxS), SHT m → CNT X N σ → TXI X N m → ROK 9999 n σ → WOK n σ → ∃ (r : Int32) (n' : Nat) (σ' : Row), ROK 9999 n' σ' ∧ WOK n' σ' ∧ σ' 15 = σ 15 ∧ (∀ key, key < 3 → σ' (51 + key) = σ (51 + key)) ∧ (∃ m1, Fr scr m m1 ∧ fX (lay (70 * 0) 54 σ m) = some (r, lay (70 * 0) 54 σ' m1)) ∧ (∀ τ, Lv n σ τ → ∀ m0, Fr (sRW ++ scr) m m0 → ∃ τ' m2, Lv n' σ' τ' ∧ Fr scr m0 m2 ∧ fM (lay 4000 51 τ m0) = some (r, lay 4000 51 τ' m2))) : Op fX fM m := by
  obtain ⟨n, N, σ, τ, X, h1, h2, h3, h4, h5, h6, h7, h8, h9⟩ := hI
  obtain ⟨r, n', σ', k1, k2, k3, k4, ⟨m1, f1, e1⟩, hM⟩ := h n N σ X h6 h2 h3 h1.2.2.2.1 h1.2.2.2.2
  rw [← h1.layC] at e1
  have hx : lay (70 * 0) 54 σ' m1 = lay 4000 51 τ (lay (70 * 0) 54 σ' m1) := lay_of (fun k hk => by
    rw [lay_out (by omega), f1 _ (fun p hp => by
      have : scr.all (fun p => Nat.ble p.2 4000 || Nat.ble 4051 p.1) = true := by decide
      have := List.all_eq_true.mp this p hp
      simp only [Bool.or_eq_true, Nat.ble_eq] at this
      omega)]
    exact h1.2.1 k hk)
  have hfr : Fr (sRW ++ scr) m (lay (70 * 0) 54 σ' m1) := by
    have a : Fr (scr ++ [(70 * 0, 70 * 0 + 54)]) m (lay (70 * 0) 54 σ' m1) := f1.trans Fr.lay
    exact a.sub (by decide)
  obtain ⟨τ', m2, hle, f2, e2⟩ := hM τ h1.2.2.1 (lay (70 * 0) 54 σ' m1) hfr
  rw [← hx] at e2
  have hfr2 : Fr (sRW ++ scr) m (lay 4000 51 τ' m2) := by
    have a := (hfr.trans f2).trans (Fr.lay (b := 4000) (n := 51) (σ := τ'))
    exact a.sub (by decide)
  refine ⟨r, _, _, e1, e2, inv_row h2 h3 h4 h5 h6 h7 h8 h9 hfr2 (fun k hk => ?_) (fun k hk => lay_in hk) hle k1 k2 k3 k4⟩
  rw [lay_out (by omega), f2 k (fun p hp => by
    have : scr.all (fun p => Nat.ble 54 p.1) = true := by decide
    have := List.all_eq_true.mp this p hp
    simp only [Nat.ble_eq] at this
    omega)]
  have := @lay_in (70 * 0) 54 k σ' m1 hk
  rw [show 70 * 0 + k = k by omega] at this
  exact this
section POUR
variable {fu n N v k B s : Nat} {σ τ ρ : Row} {m M M' : Mem} {X : TxS} {x x1 x2 x3 : Int32}
def clampC (c : Int32) : Int32 := if 1 < (if 60 < c then 60 else c) then (if 60 < c then 60 else c) else 1
theorem clampC_nI : ∃ w, 1 ≤ w ∧ w ≤ 60 ∧ clampC x = nI w := by
  have e1 : (1 : Int32).toInt = 1 := by decide
  have e60 : (60 : Int32).toInt = 60 := by decide
  unfold clampC
  by_cases h : 60 < x
  · rw [if_pos h, if_pos (by decide)]
    exact ⟨60, by decide, by decide, rfl⟩
  · rw [if_neg h]
    by_cases h1 : 1 < x
    · rw [if_pos h1]
      have a := Int32.lt_iff_toInt_lt.mp h1
      have b : ¬ (60 : Int32).toInt < x.toInt := fun z => h (Int32.lt_iff_toInt_lt.mpr z)
      refine ⟨x.toInt.toNat, by omega, by omega, ?_⟩
      apply Int32.toInt_inj.mp
      rw [nI_toInt (by omega)]
      omega
    · rw [if_neg h1]
      exact ⟨1, by decide, by decide, rfl⟩
theorem mclamp_ev : f_X9_within fu x 1 60 m = some (clampC x, m) := by
  rw [mwithin_ev]
  have e1 : (1 : Int32).toInt = 1 := by decide
  have e60 : (60 : Int32).toInt = 60 := by decide
  sorry
end POUR
