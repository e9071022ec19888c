/-! PURE: pour -/
theorem op_rowF {m : Mem} {fX fM : Mem → Option (Int32 × Mem)} (hI : Inv m) (h : ∀ (n N : Nat) (σ : Row) (X : TxS), SHT m → CNT X N σ → TXI X N m → ROK 9999 n σ → WOK n σ → ∃ (r : Int32) (n' : Nat) (σ' : Row), ROK 9999 n' σ' ∧ WOK n' σ' ∧ σ' 15 = σ 15 ∧ (∀ key, key < 3 → σ' (51 + key) = σ (51 + key)) ∧ (∃ m1, Fr scr m m1 ∧ fX (lay (70 * 0) 54 σ m) = some (r, lay (70 * 0) 54 σ' m1)) ∧ (∀ τ, Lv n σ τ → ∀ m0, Fr (sRW ++ scr) m m0 → ∃ τ' m2, Lv n' σ' τ' ∧ Fr scr m0 m2 ∧ fM (lay 4000 51 τ m0) = some (r, lay 4000 51 τ' m2))) : Op fX fM m := by
  obtain ⟨n, N, σ, τ, X, h1, h2, h3, h4, h5, h6, h7, h8, h9⟩ := hI
  obtain ⟨r, n', σ', k1, k2, k3, k4, ⟨m1, f1, e1⟩, hM⟩ := h n N σ X h6 h2 h3 h1.2.2.2.1 h1.2.2.2.2
  rw [← h1.layC] at e1
  have hx : lay (70 * 0) 54 σ' m1 = lay 4000 51 τ (lay (70 * 0) 54 σ' m1) := lay_of (fun k hk => by
    rw [lay_out (by omega), f1 _ (fun p hp => by
      have : scr.all (fun p => Nat.ble p.2 4000 || Nat.ble 4051 p.1) = true := by decide
      have := List.all_eq_true.mp this p hp
      simp only [Bool.or_eq_true, Nat.ble_eq] at this
      omega)]
    exact h1.2.1 k hk)
  have hfr : Fr (sRW ++ scr) m (lay (70 * 0) 54 σ' m1) := by
    have a : Fr (scr ++ [(70 * 0, 70 * 0 + 54)]) m (lay (70 * 0) 54 σ' m1) := f1.trans Fr.lay
    exact a.sub (by decide)
  obtain ⟨τ', m2, hle, f2, e2⟩ := hM τ h1.2.2.1 (lay (70 * 0) 54 σ' m1) hfr
  rw [← hx] at e2
  have hfr2 : Fr (sRW ++ scr) m (lay 4000 51 τ' m2) := by
    have a := (hfr.trans f2).trans (Fr.lay (b := 4000) (n := 51) (σ := τ'))
    exact a.sub (by decide)
  refine ⟨r, _, _, e1, e2, inv_row h2 h3 h4 h5 h6 h7 h8 h9 hfr2 (fun k hk => ?_) (fun k hk => lay_in hk) hle k1 k2 k3 k4⟩
  rw [lay_out (by omega), f2 k (fun p hp => by
    have : scr.all (fun p => Nat.ble 54 p.1) = true := by decide
    have := List.all_eq_true.mp this p hp
    simp only [Nat.ble_eq] at this
    omega)]
  have := @lay_in (70 * 0) 54 k σ' m1 hk
  rw [show 70 * 0 + k = k by omega] at this
  exact this
section POUR
variable {fu n N v k B s : Nat} {σ τ ρ : Row} {m M M' : Mem} {X : TxS} {x x1 x2 x3 : Int32}
def clampC (c : Int32) : Int32 := if 1 < (if 60 < c then 60 else c) then (if 60 < c then 60 else c) else 1
theorem clampC_nI : ∃ w, 1 ≤ w ∧ w ≤ 60 ∧ clampC x = nI w := by
  have e1 : (1 : Int32).toInt = 1 := by decide
  have e60 : (60 : Int32).toInt = 60 := by decide
  unfold clampC
  by_cases h : 60 < x
  · rw [if_pos h, if_pos (by decide)]
    exact ⟨60, by decide, by decide, rfl⟩
  · rw [if_neg h]
    by_cases h1 : 1 < x
    · rw [if_pos h1]
      have a := Int32.lt_iff_toInt_lt.mp h1
      have b : ¬ (60 : Int32).toInt < x.toInt := fun z => h (Int32.lt_iff_toInt_lt.mpr z)
      refine ⟨x.toInt.toNat, by omega, by omega, ?_⟩
      apply Int32.toInt_inj.mp
      rw [nI_toInt (by omega)]
      omega
    · rw [if_neg h1]
      exact ⟨1, by decide, by decide, rfl⟩
theorem mclamp_ev : f_X9_within fu x 1 60 m = some (clampC x, m) := by
  unfold f_X9_within clampC
  by_cases h : 60 < x
  · rw [if_pos (Int32.le_trans (by decide) (Int32.le_of_lt h)), if_neg (Int32.not_le.mpr h), if_pos h, if_pos (by decide)]
  · rw [if_neg h]
    by_cases h1 : 1 < x
    · rw [if_pos (Int32.le_of_lt h1), if_pos (Int32.not_lt.mp h), if_pos h1]
    · rw [if_neg h1]
      by_cases h2 : 1 ≤ x
      · rw [if_pos h2, if_pos (Int32.not_lt.mp h), Int32.le_antisymm h2 (Int32.not_lt.mp h1)]
      · rw [if_neg h2]
def isNb (c : Nat → Int32) (z i : Nat) : Prop := i < z ∧ ¬ c i = -1000000005
def stepP (c : Nat → Int32) (z : Nat) (σ : Row) (i : Nat) : Row := if i < z then (if c i = -1000000005 then σ else upd σ (ps i 1) (clampC (c i))) else σ
def PR (c : Nat → Int32) (z : Nat) (σ : Row) : Nat → Row
  | 0 => σ
  | i + 1 => stepP c z (PR c z σ i) i
def PC (c : Nat → Int32) (z : Nat) (σ : Row) : Nat → Nat
  | 0 => 0
  | i + 1 => PC c z σ i + (if i < z then (if c i = -1000000005 then 0 else if clampC (c i) = PR c z σ i (ps i 1) then 0 else 1) else 0)
theorem PR_ROK {c : Nat → Int32} {z : Nat} (hk : ROK 9999 n σ) (hw : WOK n σ) : ∀ i, i ≤ n → ROK 9999 n (PR c z σ i) ∧ WOK n (PR c z σ i) := by
  intro i
  induction i with
  | zero => intro _; exact ⟨hk, hw⟩
  | succ i ih =>
    intro hi
    obtain ⟨a, b⟩ := ih (by omega)
    rw [PR, stepP]
    split
    · split
      · exact ⟨a, b⟩
      · obtain ⟨w, w1, w2, e⟩ := clampC_nI (x := c i)
        rw [e]
        refine ⟨a.wait (by omega) w1 (by omega), fun u hu => ?_⟩
        by_cases q : u = i
        · subst q; exact ⟨w, w1, w2, pk_us⟩
        · rw [pk_un (fun y => q (ps_inj (by decide) (by decide) y).1)]; exact b u hu
    · exact ⟨a, b⟩
theorem PR_o {c : Nat → Int32} {z q : Nat} (hn : n ≤ 5) (hq : q = 15 ∨ 51 ≤ q) : ∀ i, i ≤ n → PR c z σ i q = σ q := by
  intro i
  induction i with
  | zero => intro _; rfl
  | succ i ih =>
    intro hi
    rw [PR, stepP]
    split
    · split
      · exact ih (by omega)
      · rw [pk_un (by unfold ps; omega)]; exact ih (by omega)
    · exact ih (by omega)
theorem PR_Lv {c : Nat → Int32} {z : Nat} (hl : Lv n σ τ) : ∀ i, Lv n (PR c z σ i) (PR c z τ i) := by
  intro i
  induction i with
  | zero => exact hl
  | succ i ih =>
    rw [PR, PR, stepP, stepP]
    split
    · split
      · exact ih
      · exact ih.up
    · exact ih
theorem PR_stop {c : Nat → Int32} {z : Nat} : ∀ j, PR c z σ (z + j) = PR c z σ z ∧ PC c z σ (z + j) = PC c z σ z := by
  intro j
  induction j with
  | zero => exact ⟨rfl, rfl⟩
  | succ j ih =>
    rw [show z + (j + 1) = (z + j) + 1 by omega, PR, PC, stepP, if_neg (by omega), if_neg (by omega)]
    exact ih
theorem cpour_L {z : Nat} (hz : m (hf s 1) = nI z) (hz2 : z ≤ 24) (hs : s < 4) (hk : ROK 9999 n σ) (hw : WOK n σ) : ∀ (f i : Nat), i ≤ n → n - i < f → f_X8_pour_32 fu f s (nI (PC (fun k => m (500 + 24 * s + k)) z σ i)) (nI i) (lay (70 * 0) 54 (PR (fun k => m (500 + 24 * s + k)) z σ i) m) = some (nI (PC (fun k => m (500 + 24 * s + k)) z σ n), lay (70 * 0) 54 (PR (fun k => m (500 + 24 * s + k)) z σ n) m) := by
  have hn := hk.2.1
  intro f
  induction f with
  | zero => intro i _ h; omega
  | succ f ih =>
    intro i hi hf2
    obtain ⟨a, b⟩ := PR_ROK (c := fun k => m (500 + 24 * s + k)) (z := z) hk hw i hi
    rw [f_X8_pour_32, lc_get (by decide), a.1]
    by_cases he : i = n
    · subst he
      rw [if_pos (nI_le (Nat.le_refl _) (by omega))]
    · have hlt : i < n := by omega
      have hi5 : i < 5 := by omega
      have ih' := ih (i + 1) (by omega) (by omega)
      rw [PR, PC, stepP] at ih'
      have hz' : (lay (70 * 0) 54 (PR (fun k => m (500 + 24 * s + k)) z σ i) m) (hf s 1) = nI z := by rw [lay_out (by unfold hf; omega), hz]
      have hc' : (lay (70 * 0) 54 (PR (fun k => m (500 + 24 * s + k)) z σ i) m) (500 + 24 * s + i) = m (500 + 24 * s + i) := lay_out (by omega)
      rw [if_neg (nI_ge hlt (by omega)), cnum_ev hz' hz2 (by omega), doI_some, hc']
      unfold f_X8_pour_107
      simp only [seqM_eq, nI_1, inb_nI (show i < 24 by omega) (show 24 < 2 ^ 31 by decide), inb_nI hi5 (show 5 < 2 ^ 31 by decide), chk_t, nI_clamp (show i < 2 ^ 31 by omega), hc', lc_vget hi5 (show 1 < 7 by decide), lc_vupd hi5 (show 1 < 7 by decide)]
      by_cases h1 : i < z
      · by_cases h2 : m (500 + 24 * s + i) = -1000000005
        · rw [bz_f (fun q => q.2 h2), if_pos rfl]
          rw [if_pos h1, if_pos h1, if_pos h2, if_pos h2] at ih'
          exact ih'
        · rw [bz_t ⟨h1, h2⟩, if_neg (by decide)]
          rw [if_pos h1, if_pos h1, if_neg h2, if_neg h2] at ih'
          show (if clampC (m (500 + 24 * s + i)) = _ then _ else _) = _
          by_cases h3 : clampC (m (500 + 24 * s + i)) = PR (fun k => m (500 + 24 * s + k)) z σ i (ps i 1)
          · rw [if_pos h3]
            rw [if_pos h3, h3, upd_self] at ih'
            exact ih'
          · rw [if_neg h3]
            rw [if_neg h3] at ih'
            exact ih'
      · rw [bz_f (fun q => h1 q.1), if_pos rfl]
        rw [if_neg h1, if_neg h1] at ih'
        exact ih'
theorem mpour_L {z : Nat} {c : Nat → Int32} (hz : m (3820 + s) = nI z) (hz2 : z ≤ 24) (hc : ∀ k, k < 24 → m (3830 + (24 * s + k)) = c k) (hs : s < 4) (hk : ROK 9999 n σ) (hw : WOK n σ) (hl : Lv n σ τ) : ∀ (f i : Nat), i ≤ n → i ≤ z → n - i < f → f_X9_pour_26 fu f (nI s) (nI (PC c z σ i)) (nI i) (lay 4000 51 (PR c z τ i) m) = some (nI (PC c z σ n), lay 4000 51 (PR c z τ n) m) := by
  have hn := hk.2.1
  intro f
  induction f with
  | zero => intro i _ _ h; omega
  | succ f ih =>
    intro i hi hiz hf2
    obtain ⟨a, b⟩ := PR_ROK (c := c) (z := z) hk hw i hi
    have L := PR_Lv (c := c) (z := z) hl i
    have hz' : (lay 4000 51 (PR c z τ i) m) (3820 + s) = nI z := by rw [lay_out (by omega), hz]
    rw [f_X9_pour_26, inb_nI hs (by decide), chk_t, nI_clamp (by omega), hz', show 4000 + 1500 * 0 + (1 : Int32).toNatClampNeg = 4001 by decide, lm_1, L.l (by decide), a.1]
    by_cases he : i = z
    · subst he
      rw [if_pos (nI_le (Nat.le_refl _) (by omega))]
      obtain ⟨s1, s2⟩ := PR_stop (c := c) (z := i) (σ := σ) (n - i)
      obtain ⟨s3, s4⟩ := PR_stop (c := c) (z := i) (σ := τ) (n - i)
      rw [show i + (n - i) = n by omega] at s1 s2 s3 s4
      rw [s2, s3]
    · rw [if_neg (nI_ge (by omega) (by omega))]
      by_cases he2 : i = n
      · subst he2
        rw [if_pos (nI_le (Nat.le_refl _) (by omega))]
      · have hlt : i < n := by omega
        have hi5 : i < 5 := by omega
        have h1 : i < z := by omega
        have ih' := ih (i + 1) (by omega) (by omega) (by omega)
        rw [PR, PC, stepP, if_pos h1, if_pos h1] at ih'
        have hc' : (lay 4000 51 (PR c z τ i) m) (3830 + (24 * s + i)) = c i := by rw [lay_out (by omega), hc i (by omega)]
        have e1 : 16 + 7 * nI i + 1 = nI (ps i 1) := ix_ps (j := 1)
        have hp := ps_lt hi5 (show 1 < 7 by decide)
        rw [if_neg (nI_ge hlt (by omega)), ix24, inb_nI (show 24 * s + i < 96 by omega) (by decide), chk_t, nI_clamp (by omega), hc', seqM_eq]
        unfold f_X9_pour_83 f_X9_pour_111
        simp only [e1, of_1 hi5, mclamp_ev, doI_some, swaps_ev hp, seqM_eq, nI_1, Int32.add_zero, L.f hlt (show 1 < 7 by decide)]
        by_cases h2 : c i = -1000000005
        · rw [if_pos h2, if_pos True.intro]
          rw [if_pos h2, if_pos h2] at ih'
          have e3 : upd (PR c z τ i) (ps i 1) (PR c z σ i (ps i 1)) = PR c z τ i := by rw [← L.f hlt (show 1 < 7 by decide), upd_self]
          rw [e3]
          exact ih'
        · rw [if_neg h2]
          rw [if_neg h2, if_neg h2] at ih'
          by_cases h3 : clampC (c i) = PR c z σ i (ps i 1)
          · rw [if_pos h3.symm]
            rw [if_pos h3] at ih'
            exact ih'
          · rw [if_neg (fun y => h3 y.symm)]
            rw [if_neg h3] at ih'
            exact ih'
theorem op_pour (hfu : 96 < fu) (hI : Inv m) : Op (f_X8_pour fu x1) (f_X9_pour fu x1) m := by
  refine op_rowF hI (fun n N σ X h6 hc ht hk hw => ?_)
  have hn := hk.2.1
  by_cases hA : inR x1 0 3
  · obtain ⟨s, -, hs, rfl⟩ := inR_nI (a := 0) (b := 3) (by decide) (by decide) hA
    obtain ⟨z, hS⟩ := h6.sh (s := s) (by omega)
    have i4 := inb_nI (show s < 4 by omega) (show 4 < 2 ^ 31 by decide)
    have c4 := nI_clamp (show s < 2 ^ 31 by omega)
    have l0 : lay (70 * 0) 54 σ m (hf s 0) = m (hf s 0) := lay_out (by unfold hf; omega)
    have m0s : ∀ τ m0, Fr (sRW ++ scr) m m0 → (0 ≤ lay 4000 51 τ m0 (3810 + s)) = ¬ m (hf s 0) = -1 := fun τ m0 hf0 => by
      rw [lay_out (by omega), hf0.on (S := sSH) (by decide) _ (onS_of 2 rfl (by omega) (by omega))]
      exact hS.pos
    by_cases hB : m (hf s 0) = -1
    · refine ⟨-1000000011, n, σ, hk, hw, rfl, fun _ _ => rfl, ⟨m, fr_nil, ?_⟩, fun τ hτ m0 hf0 => ⟨τ, m0, hτ, fr_nil, ?_⟩⟩
      · unfold f_X8_pour
        simp only [csheet_ev, bz_t hA, doI_some, doV_some, seqM_eq, chk_t, show ¬ (1 : Int32) = 0 by decide, if_false, i4, c4, cmiss_ev, l0, bz_t hB]
      · unfold f_X9_pour
        simp only [msheet_ev, bz_t hA, doI_some, doV_some, seqM_eq, chk_t, show ¬ (1 : Int32) = 0 by decide, if_false, i4, c4, m0s τ m0 hf0, hB, not_true_eq_false]
    · obtain ⟨a, b⟩ := PR_ROK (c := fun k => m (500 + 24 * s + k)) (z := z) hk hw n (Nat.le_refl _)
      refine ⟨nI (PC (fun k => m (500 + 24 * s + k)) z σ n), n, PR (fun k => m (500 + 24 * s + k)) z σ n, a, b, PR_o hn (Or.inl rfl) n (Nat.le_refl _), fun key _ => PR_o hn (Or.inr (by omega)) n (Nat.le_refl _), ⟨m, fr_nil, ?_⟩, fun τ hτ m0 hf0 => ⟨PR (fun k => m (500 + 24 * s + k)) z τ n, m0, PR_Lv hτ n, fr_nil, ?_⟩⟩
      · unfold f_X8_pour
        simp only [csheet_ev, bz_t hA, doI_some, doV_some, seqM_eq, chk_t, show ¬ (1 : Int32) = 0 by decide, if_false, i4, c4, cmiss_ev, l0, bz_f hB, if_true]
        exact cpour_L hS.csz hS.size (by omega) hk hw fu 0 (Nat.zero_le _) (by omega)
      · unfold f_X9_pour
        simp only [msheet_ev, bz_t hA, doI_some, doV_some, seqM_eq, chk_t, show ¬ (1 : Int32) = 0 by decide, if_false, i4, c4, m0s τ m0 hf0, hB, not_false_eq_true, if_true]
        have ho := hf0.on (S := sSH) (by decide)
        exact mpour_L (c := fun k => m (500 + 24 * s + k)) (by rw [ho _ (onS_of 3 rfl (by omega) (by omega))]; exact hS.msz) hS.size (fun k hk2 => by rw [ho _ (onS_of 4 rfl (by omega) (by omega))]; exact hS.cell k hk2) (by omega) hk hw hτ fu 0 (Nat.zero_le _) (Nat.zero_le _) (by omega)
  · refine ⟨-1000000001, n, σ, hk, hw, rfl, fun _ _ => rfl, ⟨m, fr_nil, ?_⟩, fun τ hτ m0 hf0 => ⟨τ, m0, hτ, fr_nil, ?_⟩⟩
    · unfold f_X8_pour
      simp only [csheet_ev, bz_f hA, doI_some, doV_some, seqM_eq, chk_t, if_true]
    · unfold f_X9_pour
      simp only [msheet_ev, bz_f hA, doI_some, doV_some, seqM_eq, chk_t, if_true]
end POUR
