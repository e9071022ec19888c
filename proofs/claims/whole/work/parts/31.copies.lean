/-! PURE: rows that are copied -/
def CpR (t0 t1 : Nat) (D : Nat → Prop) (m m1 : Mem) : Prop := (∀ q, q < 54 → D q → m1 (sf t0 q) = m (sf t1 q)) ∧ ∀ k, (∀ q, q < 54 → D q → k ≠ sf t0 q) → m1 k = m k
def plusD (D : Nat → Prop) (q : Nat) : Nat → Prop := fun x => D x ∨ x = q
theorem sf_apart {t0 t1 q p : Nat} (ht : t0 ≠ t1) (hq : q < 54) (hp : p < 54) : sf t1 q ≠ sf t0 p := by unfold sf; omega
theorem sf_inj {t q p : Nat} (h : sf t q = sf t p) : q = p := by unfold sf at h; omega
section CPS
variable {fu n t0 t1 : Nat} {m m0 : Mem} {D : Nat → Prop}
theorem CpR.src (ht : t0 ≠ t1) (h : CpR t0 t1 D m m0) {q : Nat} (hq : q < 54) : m0 (sf t1 q) = m (sf t1 q) := h.2 _ (fun p hp _ => sf_apart ht hq hp)
theorem CpR.step (ht : t0 ≠ t1) (h : CpR t0 t1 D m m0) {q : Nat} (hq : q < 54) : CpR t0 t1 (plusD D q) m (upd m0 (sf t0 q) (m0 (sf t1 q))) := by
  rw [h.src ht hq]
  refine ⟨fun p hp hD => ?_, fun k hk => ?_⟩
  · by_cases e : p = q
    · subst e; rw [pk_us]
    · rw [pk_un (fun z => e (sf_inj z))]
      rcases hD with hD | hD
      · exact h.1 p hp hD
      · exact absurd hD e
  · rw [pk_un (hk q hq (Or.inr rfl))]
    exact h.2 k (fun p hp hD => hk p hp (Or.inl hD))
theorem cp_step {P : Mem → Prop} {k : Mem → Option Mem} (ht : t0 ≠ t1) (h : CpR t0 t1 D m m0) {q : Nat} (hq : q < 54) (kk : ∀ m', CpR t0 t1 (plusD D q) m m' → ∃ m1, k m' = some m1 ∧ P m1) : ∃ m1, seqM (upd m0 (sf t0 q) (m0 (sf t1 q))) k = some m1 ∧ P m1 := kk _ (h.step ht hq)
theorem cp_voice (ht : t0 ≠ t1) {v : Nat} (hv : v < 5) (h : CpR t0 t1 D m m0) : ∃ m1, f_X7_become fu (10 * t0 + v) (10 * t1 + v) m0 = some m1 ∧ CpR t0 t1 (fun x => D x ∨ (ps v 0 ≤ x ∧ x < ps v 0 + 7)) m m1 := by
  unfold f_X7_become
  simp only [vf_ps]
  have hp : ∀ j, j < 7 → ps v j < 54 := fun j hj => Nat.lt_trans (ps_lt hv hj) (by decide)
  refine cp_step ht h (hp 0 (by decide)) (fun m' h => ?_)
  refine cp_step ht h (hp 1 (by decide)) (fun m' h => ?_)
  refine cp_step ht h (hp 2 (by decide)) (fun m' h => ?_)
  refine cp_step ht h (hp 3 (by decide)) (fun m' h => ?_)
  refine cp_step ht h (hp 4 (by decide)) (fun m' h => ?_)
  refine cp_step ht h (hp 5 (by decide)) (fun m' h => ?_)
  refine cp_step ht h (hp 6 (by decide)) (fun m' h => ?_)
  refine ⟨m', rfl, ?_⟩
  have e : ∀ x, plusD (plusD (plusD (plusD (plusD (plusD (plusD D (ps v 0)) (ps v 1)) (ps v 2)) (ps v 3)) (ps v 4)) (ps v 5)) (ps v 6) x ↔ (D x ∨ (ps v 0 ≤ x ∧ x < ps v 0 + 7)) := by
    intro x
    unfold plusD ps
    constructor
    · rintro (((((((h | h) | h) | h) | h) | h) | h) | h)
      · exact Or.inl h
      all_goals exact Or.inr (by omega)
    · rintro (h | h)
      · exact Or.inl (Or.inl (Or.inl (Or.inl (Or.inl (Or.inl (Or.inl h))))))
      · by_cases h0 : x = 16 + 7 * v + 0
        · exact Or.inl (Or.inl (Or.inl (Or.inl (Or.inl (Or.inl (Or.inr h0))))))
        by_cases h1 : x = 16 + 7 * v + 1
        · exact Or.inl (Or.inl (Or.inl (Or.inl (Or.inl (Or.inr h1)))))
        by_cases h2 : x = 16 + 7 * v + 2
        · exact Or.inl (Or.inl (Or.inl (Or.inl (Or.inr h2))))
        by_cases h3 : x = 16 + 7 * v + 3
        · exact Or.inl (Or.inl (Or.inl (Or.inr h3)))
        by_cases h4 : x = 16 + 7 * v + 4
        · exact Or.inl (Or.inl (Or.inr h4))
        by_cases h5 : x = 16 + 7 * v + 5
        · exact Or.inl (Or.inr h5)
        · exact Or.inr (by omega)
  exact ⟨fun q hq hD => h.1 q hq ((e q).mpr hD), fun k hk => h.2 k (fun q hq hD => hk q hq ((e q).mp hD))⟩
theorem CpR.weak {D' : Nat → Prop} (h : CpR t0 t1 D m m0) (e : ∀ x, x < 54 → (D x ↔ D' x)) : CpR t0 t1 D' m m0 := ⟨fun q hq hD => h.1 q hq ((e q hq).mpr hD), fun k hk => h.2 k (fun q hq hD => hk q hq ((e q hq).mp hD))⟩
theorem cnt_sf {t k : Nat} : 51 + 70 * t + k = sf t (51 + k) := by unfold sf; omega
theorem become_161 (ht : t0 ≠ t1) {m0 : Mem} : ∀ (f i : Nat) (m0 : Mem), i ≤ 3 → 3 - i < f → CpR t0 t1 (fun x => x < 16 + 7 * n ∨ (51 ≤ x ∧ x < 51 + i)) m m0 → ∃ m1, f_X4_become_161 fu f t0 t1 (nI i) m0 = some m1 ∧ CpR t0 t1 (fun x => x < 16 + 7 * n ∨ (51 ≤ x ∧ x < 54)) m m1 := by
  intro f
  induction f with
  | zero => intro i _ _ h; omega
  | succ f ih =>
    intro i m0 hi hf h
    rw [f_X4_become_161]
    by_cases he : i = 3
    · subst he
      rw [if_pos (by decide)]
      exact ⟨m0, rfl, h⟩
    · rw [if_neg (by rw [show (2 : Int32) = nI 2 from rfl]; exact nI_nlt (by omega) (by decide)), inb_nI (by omega) (by decide)]
      simp only [chk_t]
      rw [nI_clamp (by omega), cnt_sf, cnt_sf]
      refine cp_step ht h (by omega) (fun m' h2 => ?_)
      simp only [seqM_eq, nI_1]
      refine ih (i + 1) m' (by omega) (by omega) (h2.weak (fun x hx => ?_))
      unfold plusD
      omega
theorem become_10 (ht : t0 ≠ t1) (hn : n ≤ 5) (hfu : 5 < fu) (h1 : m (sf t1 1) = nI n) : ∀ (f i : Nat) (m0 : Mem), i ≤ n → n - i < f → CpR t0 t1 (fun x => x = 1 ∨ (16 ≤ x ∧ x < 16 + 7 * i)) m m0 → ∃ m1, f_X4_become_10 fu f t0 t1 (nI i) m0 = some m1 ∧ CpR t0 t1 (fun x => x < 16 + 7 * n ∨ (51 ≤ x ∧ x < 54)) m m1 := by
  intro f
  induction f with
  | zero => intro i _ _ h; omega
  | succ f ih =>
    intro i m0 hi hf h
    rw [f_X4_become_10]
    have e1 : m0 (sf t0 1) = nI n := by rw [h.1 1 (by decide) (Or.inl rfl), h1]
    rw [e1]
    by_cases he : i = n
    · subst he
      rw [if_pos (nI_le (Nat.le_refl _) (by omega))]
      refine cp_step ht h (q := 5) (by decide) (fun m' h => ?_)
      refine cp_step ht h (q := 3) (by decide) (fun m' h => ?_)
      refine cp_step ht h (q := 4) (by decide) (fun m' h => ?_)
      refine cp_step ht h (q := 6) (by decide) (fun m' h => ?_)
      refine cp_step ht h (q := 7) (by decide) (fun m' h => ?_)
      refine cp_step ht h (q := 8) (by decide) (fun m' h => ?_)
      refine cp_step ht h (q := 9) (by decide) (fun m' h => ?_)
      refine cp_step ht h (q := 10) (by decide) (fun m' h => ?_)
      refine cp_step ht h (q := 11) (by decide) (fun m' h => ?_)
      refine cp_step ht h (q := 12) (by decide) (fun m' h => ?_)
      refine cp_step ht h (q := 13) (by decide) (fun m' h => ?_)
      refine cp_step ht h (q := 14) (by decide) (fun m' h => ?_)
      refine cp_step ht h (q := 2) (by decide) (fun m' h => ?_)
      refine cp_step ht h (q := 0) (by decide) (fun m' h => ?_)
      refine cp_step ht h (q := 15) (by decide) (fun m' h => ?_)
      refine become_161 (n := i) ht (m0 := m') fu 0 m' (by decide) (by omega) (h.weak (fun x hx => ?_))
      unfold plusD
      omega
    · have hlt : i < 5 := by omega
      rw [if_neg (nI_ge (by omega) (by omega)), inb_nI hlt (by decide)]
      simp only [chk_t]
      rw [nI_clamp (by omega)]
      obtain ⟨m1, q1, q2⟩ := cp_voice (fu := fu) ht hlt h
      rw [q1]
      simp only [doI_some, doV_some, seqM_eq, chk_t, nI_1]
      refine ih (i + 1) m1 (by omega) (by omega) (q2.weak (fun x hx => ?_))
      unfold ps
      omega
theorem become_ev (ht : t0 ≠ t1) (hn : n ≤ 5) (hfu : 5 < fu) (h1 : m (sf t1 1) = nI n) : ∃ m1, f_X4_become fu t0 t1 m = some m1 ∧ CpR t0 t1 (fun x => x < 16 + 7 * n ∨ (51 ≤ x ∧ x < 54)) m m1 := by
  unfold f_X4_become
  have h0 : CpR t0 t1 (fun _ => False) m m := ⟨fun q _ h => h.elim, fun _ _ => rfl⟩
  refine cp_step ht h0 (q := 1) (by decide) (fun m' h => ?_)
  refine become_10 ht hn hfu h1 fu 0 m' (Nat.zero_le _) (by omega) (h.weak (fun x hx => ?_))
  unfold plusD
  constructor
  · rintro (h | h)
    · exact h.elim
    · exact Or.inl h
  · rintro (h | h)
    · exact Or.inr h
    · omega
/-- the thought becomes the row -/
theorem become_row {σ : Row} (ht : t0 ≠ t1) (hn : n ≤ 5) (hfu : 5 < fu) (hs : ∀ q, q < 54 → m (70 * t1 + q) = σ q) (h1 : σ 1 = nI n) : ∃ σ1, Lv n σ σ1 ∧ (∀ key, key < 3 → σ1 (51 + key) = σ (51 + key)) ∧ f_X4_become fu t0 t1 m = some (lay (70 * t0) 54 σ1 m) := by
  obtain ⟨m1, q1, q2⟩ := become_ev (fu := fu) (m := m) ht hn hfu (by unfold sf; rw [hs 1 (by decide), h1])
  refine ⟨fun q => m1 (70 * t0 + q), fun q hq => ?_, fun key hk => ?_, ?_⟩
  · have := q2.1 q (by omega) (Or.inl hq)
    unfold sf at this
    show m1 (70 * t0 + q) = σ q
    rw [this, hs q (by omega)]
  · have := q2.1 (51 + key) (by omega) (Or.inr (by omega))
    unfold sf at this
    show m1 (70 * t0 + (51 + key)) = σ (51 + key)
    rw [this, hs _ (by omega)]
  · rw [q1]
    congr 1
    funext k
    unfold lay
    by_cases hk : 70 * t0 ≤ k ∧ k < 70 * t0 + 54
    · rw [if_pos hk]
      show m1 k = m1 (70 * t0 + (k - 70 * t0))
      rw [Nat.add_sub_cancel' hk.1]
    · rw [if_neg hk]
      exact q2.2 k (fun q hq _ => by unfold sf; omega)
end CPS
/-! the reference's copies -/
section MCP
variable {fu n : Nat} {m : Mem} {σ τ ρ : Row}
theorem lay_snoc {b i : Nat} : upd (lay b i σ m) (b + i) (σ i) = lay b (i + 1) σ m := by
  funext k
  unfold lay upd
  dsimp only
  by_cases h : k = b + i
  · subst h
    rw [if_pos rfl, if_pos (by omega)]
    congr 1
    omega
  · rw [if_neg h]
    by_cases h2 : b ≤ k ∧ k < b + i
    · rw [if_pos h2, if_pos (by omega)]
    · rw [if_neg h2, if_neg (by omega)]
theorem thinks_L : ∀ (f i : Nat), i ≤ 51 → 51 - i < f → f_X9_thinks_2 fu f (nI i) (lay 4000 51 τ (lay 3100 i τ m)) = some (lay 4000 51 τ (lay 3100 51 τ m)) := by
  intro f
  induction f with
  | zero => intro i _ h; omega
  | succ f ih =>
    intro i hi hf
    rw [f_X9_thinks_2]
    by_cases he : i = 51
    · subst he
      rw [if_pos (by decide)]
    · rw [if_neg (by rw [show (51 : Int32) = nI 51 from rfl]; exact nI_ge (by omega) (by decide)), inb_nI (show i < 1423 by omega) (by decide), inb_nI (show i < 51 by omega) (by decide)]
      simp only [doI_some, doV_some, seqM_eq, chk_t]
      rw [nI_clamp (by omega), show 4000 + 1500 * 0 + i = 4000 + i from rfl, lay_in (show i < 51 by omega), lay_updO (by omega), lay_snoc, nI_1]
      exact ih (i + 1) (by omega) (by omega)
theorem thinks_ev (hf : 51 < fu) : f_X9_thinks fu (lay 4000 51 τ m) = some (lay 4000 51 τ (lay 3100 51 τ m)) := by
  have h := thinks_L (fu := fu) (τ := τ) (m := m) fu 0 (by decide) (by omega)
  have e : lay 3100 0 τ m = m := by funext k; unfold lay; rw [if_neg (by omega)]
  rw [e] at h
  exact h
theorem putsBack_L (hb : ∀ k, k < 51 → m (3100 + k) = τ k) : ∀ (f i : Nat), i ≤ 51 → 51 - i < f → f_X9_putsBack_2 fu f (nI i) (lay 4000 51 (fun q => if q < i then τ q else ρ q) m) = some (lay 4000 51 τ m) := by
  intro f
  induction f with
  | zero => intro i _ h; omega
  | succ f ih =>
    intro i hi hf
    rw [f_X9_putsBack_2]
    by_cases he : i = 51
    · subst he
      rw [if_pos (by decide)]
      have e : lay 4000 51 (fun q => if q < 51 then τ q else ρ q) m = lay 4000 51 τ m := by
        funext k
        unfold lay
        by_cases hk : 4000 ≤ k ∧ k < 4000 + 51
        · rw [if_pos hk, if_pos hk]
          exact if_pos (by omega)
        · rw [if_neg hk, if_neg hk]
      rw [e]
    · rw [if_neg (by rw [show (51 : Int32) = nI 51 from rfl]; exact nI_ge (by omega) (by decide)), inb_nI (show i < 1423 by omega) (by decide), inb_nI (show i < 51 by omega) (by decide)]
      simp only [doI_some, doV_some, seqM_eq, chk_t]
      rw [nI_clamp (by omega), show 4000 + 1500 * 0 + i = 4000 + i from rfl, lay_out (by omega), hb i (by omega), lay_upd (by omega), nI_1]
      have e : upd (fun q => if q < i then τ q else ρ q) i (τ i) = fun q => if q < i + 1 then τ q else ρ q := by
        funext q
        unfold upd
        dsimp only
        by_cases h : q = i
        · subst h; rw [if_pos rfl, if_pos (by omega)]
        · rw [if_neg h]
          by_cases h2 : q < i
          · rw [if_pos h2, if_pos (by omega)]
          · rw [if_neg h2, if_neg (by omega)]
      rw [e]
      exact ih (i + 1) (by omega) (by omega)
theorem putsBack_ev (hf : 51 < fu) (hb : ∀ k, k < 51 → m (3100 + k) = τ k) : f_X9_putsBack fu (lay 4000 51 ρ m) = some (lay 4000 51 τ m) := by
  have h := putsBack_L (fu := fu) (ρ := ρ) hb fu 0 (by decide) (by omega)
  have e : (fun q => if q < 0 then τ q else ρ q) = ρ := by funext q; rw [if_neg (by omega)]
  rw [e] at h
  exact h
end MCP
