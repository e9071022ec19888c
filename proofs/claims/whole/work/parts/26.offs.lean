/-! PURE: the texts of both sides; what off gives -/
abbrev TxS : Type := (Nat → Nat) × (Nat → Nat) × (Nat → Nat) × (Nat → Row)
def TxC (X : TxS) (N : Nat) (m : Mem) : Prop := ∀ t, t < N → m (tf t 0) = nI (X.1 t) ∧ m (tf t 1) = nI (X.2.1 t) ∧ m (tf t 2) = nI (X.2.2.1 t) ∧ ∀ i, i < X.2.2.1 t → m (1100 + 96 * t + i) = X.2.2.2 t i
def TxM (b : Nat) (X : TxS) (N : Nat) (m : Mem) : Prop := ∀ t, t < N → m (b + 51 + 2 * t) = nI (1000 * X.1 t + X.2.2.1 t) ∧ m (b + 52 + 2 * t) = nI (X.2.1 t) ∧ ∀ i, i < X.2.2.1 t → m (b + 79 + 96 * t + i) = encM (X.2.2.2 t i)
def TxV (X : TxS) (N : Nat) : Prop := ∀ t, t < N → X.1 t < 3 ∧ X.2.1 t ≤ 96 ∧ RPN (X.1 t) (X.2.2.2 t) (X.2.2.1 t)
def lastO (tk : Nat → Nat) (key : Nat) : Nat → Option Nat
  | 0 => none
  | N + 1 => if tk N = key then some N else lastO tk key N
def optI (o : Option Nat) : Int32 := match o with
  | none => -1
  | some t => nI t
theorem lastO_lt {tk : Nat → Nat} {key t : Nat} : ∀ N, lastO tk key N = some t → t < N ∧ tk t = key := by
  intro N
  induction N with
  | zero => intro h; cases h
  | succ N ih =>
    intro h
    rw [lastO] at h
    by_cases e : tk N = key
    · rw [if_pos e] at h
      cases h
      exact ⟨Nat.lt_succ_self _, e⟩
    · rw [if_neg e] at h
      have := ih h
      exact ⟨by omega, this.2⟩
def givesT (X : TxS) (o : Option Nat) (e a b d : Int32) : Int32 := match o with
  | none => e
  | some t => giveV (X.2.2.2 t) (X.2.2.1 t) a b d
def offT (X : TxS) (N : Nat) : Off := fun s l h => givesT X (lastO X.1 0 N) (s / 20) s l h
section OFFS
variable {fu N key t : Nat} {X : TxS} {σ : Row} {m : Mem}
theorem TxC.sc {m1 : Mem} (h : TxC X N m) (hN : N ≤ 14) (hv : TxV X N) (hs : SC m m1) : TxC X N m1 := by
  intro t ht
  obtain ⟨h1, h2, h3, h4⟩ := h t ht
  have hz := (hv t ht).2.2.1
  refine ⟨?_, ?_, ?_, fun i hi => ?_⟩
  · rw [hs _ (by unfold tf; omega)]; exact h1
  · rw [hs _ (by unfold tf; omega)]; exact h2
  · rw [hs _ (by unfold tf; omega)]; exact h3
  · rw [hs _ (by omega)]; exact h4 i hi
theorem TxM.sm {b : Nat} {m1 : Mem} (hb : 4000 ≤ b) (h : TxM b X N m) (hs : SM m m1) : TxM b X N m1 := by
  intro t ht
  obtain ⟨h1, h2, h3⟩ := h t ht
  refine ⟨?_, ?_, fun i hi => ?_⟩
  · rw [hs _ (by omega) (by omega)]; exact h1
  · rw [hs _ (by omega) (by omega)]; exact h2
  · rw [hs _ (by omega) (by omega)]; exact h3 i hi
theorem mcounts_L (hN : N ≤ 14) (hv : TxV X N) (hm : TxM 4000 X N m) (hk : key < 3) : ∀ (f j : Nat), j ≤ N → j < f → f_X9_counts_10 fu f (nI key) (nI j - 1) (lay 4000 51 σ m) = some (optI (lastO X.1 key j), lay 4000 51 σ m) := by
  intro f
  induction f with
  | zero => intro j _ h; omega
  | succ f ih =>
    intro j hj hf
    rw [f_X9_counts_10]
    cases j with
    | zero => rw [if_pos (by decide)]; rfl
    | succ j =>
      obtain ⟨hk3, -, hr⟩ := hv j (by omega)
      have hz := hr.1
      have eix : 51 + 2 * nI j = nI (51 + 2 * j) := by rw [show (51 : Int32) = nI 51 from rfl, show (2 : Int32) = nI 2 from rfl, pk_mul, nI_add]
      rw [nI_pred, if_neg (nI_pos (by omega)), eix, inb_nI (by omega) (by decide), chk_t, nI_clamp (by omega), lay_out (by omega), show 4000 + 1500 * 0 + (51 + 2 * j) = 4000 + 51 + 2 * j by omega, (hm j (by omega)).1]
      rw [show (1000 : Int32) = nI 1000 from rfl, pk_div (by omega) (by decide) (by decide), show (1000 * X.1 j + X.2.2.1 j) / 1000 = X.1 j by omega]
      rw [lastO]
      by_cases e : X.1 j = key
      · rw [if_pos (by rw [e]), if_pos e]; rfl
      · rw [if_neg (fun z => e ((nI_eq (by omega) (by omega)).mp z)), if_neg e, seqM_eq, show nI j + (-1) = nI j - 1 from (Int32.sub_eq_add_neg _ _).symm]
        exact ih j (by omega) (by omega)
theorem mcounts_ev (hN : N ≤ 14) (hf : 14 < fu) (hv : TxV X N) (hm : TxM 4000 X N m) (hk : key < 3) (h15 : σ 15 = nI N) : f_X9_counts fu (nI key) (lay 4000 51 σ m) = some (optI (lastO X.1 key N), lay 4000 51 σ m) := by
  unfold f_X9_counts
  simp only [doI_some, doV_some, seqM_eq, chk_t, Nat.reduceMul, Nat.reduceAdd, Int32.reduceToNatClampNeg, lm_15, h15]
  exact mcounts_L hN hv hm hk fu N (Nat.le_refl _) (by omega)
/-- what a text gives in the reference, the facts laid -/
theorem mgives_ev (hN : N ≤ 14) (hf : 96 < fu) (hv : TxV X N) (hm : TxM 4000 X N m) {t : Nat} (ht : lastO X.1 key N = some t) {a b d : Int32} (ha : m 3800 = a) (hb : m 3801 = b) (hd : key = 0 → m 3802 = d) : ∃ m2, (∀ j, ¬ (3700 ≤ j ∧ j < 3796) → m2 j = m j) ∧ f_X9_worksOut fu (nI t) (lay 4000 51 σ m) = some (giveV (X.2.2.2 t) (X.2.2.1 t) a b d, lay 4000 51 σ m2) := by
  obtain ⟨htN, hkey⟩ := lastO_lt N ht
  obtain ⟨hk3, -, hr⟩ := hv t htN
  obtain ⟨h1, h2, h3⟩ := hm t htN
  have ho : ∀ k, 4051 ≤ k ∨ k < 4000 → lay 4000 51 σ m k = m k := fun k hk => lay_out (by omega)
  obtain ⟨m2, q1, q2⟩ := mwork_ev (fu := fu) (t := t) (m := lay 4000 51 σ m) (a := a) (b := b) (d := d) (by omega) hf hr hk3 (by rw [ho _ (by omega)]; exact h1) (fun i hi => by rw [ho _ (by omega)]; exact h3 i hi) (by rw [ho _ (by omega)]; exact ha) (by rw [ho _ (by omega)]; exact hb) (fun z => by rw [ho _ (by omega)]; exact hd (by rw [← hkey]; exact z))
  have e : m2 = lay 4000 51 σ m2 := lay_of (fun k hk => by rw [q1 _ (by omega), lay_in hk])
  have e2 : lay 4000 51 σ m2 = lay 4000 51 σ (fun k => if 3700 ≤ k ∧ k < 3796 then m2 k else m k) := by
    funext k
    unfold lay
    by_cases hk : 4000 ≤ k ∧ k < 4000 + 51
    · rw [if_pos hk, if_pos hk]
    · rw [if_neg hk, if_neg hk]
      show m2 k = (if 3700 ≤ k ∧ k < 3796 then m2 k else m k)
      by_cases h7 : 3700 ≤ k ∧ k < 3796
      · rw [if_pos h7]
      · rw [if_neg h7, q1 k h7, lay_out (by omega)]
  refine ⟨fun k => if 3700 ≤ k ∧ k < 3796 then m2 k else m k, fun j hj => if_neg hj, ?_⟩
  rw [q2, ← e2, ← e]
theorem optI_neg : ¬ (0 : Int32) ≤ optI none := by decide
theorem optI_pos {t : Nat} (h : t < 14) : (0 : Int32) ≤ optI (some t) := nI_pos' (by omega)
theorem offM_ev (hN : N ≤ 14) (hf : 96 < fu) (hv : TxV X N) (hm : TxM 4000 X N m) : OffM fu m (nI N) (offT X N) := by
  intro σ m1 h15 hs
  have hm1 := hm.sm (by decide) hs
  unfold f_X9_offGives
  have hcnt := mcounts_ev (fu := fu) (key := 0) (σ := σ) hN (by omega) hv hm1 (by decide) h15
  rw [show nI 0 = (0 : Int32) from rfl] at hcnt
  rw [hcnt]
  simp only [doI_some, doV_some, seqM_eq, chk_t, Nat.reduceMul, Nat.reduceAdd, Int32.reduceToNatClampNeg, lm_6, lm_5, lm_8]
  have o0 : ∀ (ρ : Mem) (x : Int32), upd (lay 4000 51 σ ρ) 3800 x = lay 4000 51 σ (upd ρ 3800 x) := fun ρ x => lay_updO (by decide)
  have o1 : ∀ (ρ : Mem) (x : Int32), upd (lay 4000 51 σ ρ) 3801 x = lay 4000 51 σ (upd ρ 3801 x) := fun ρ x => lay_updO (by decide)
  have o2 : ∀ (ρ : Mem) (x : Int32), upd (lay 4000 51 σ ρ) 3802 x = lay 4000 51 σ (upd ρ 3802 x) := fun ρ x => lay_updO (by decide)
  simp only [o0, o1, o2, lm_6, lm_5, lm_8]
  generalize hm2 : upd (upd (upd m1 3800 (σ 6)) 3801 (σ 5)) 3802 (σ 8) = m2
  have a0 : m2 3800 = σ 6 := by rw [← hm2, pk_un (by decide), pk_un (by decide), pk_us]
  have a1 : m2 3801 = σ 5 := by rw [← hm2, pk_un (by decide), pk_us]
  have a2 : m2 3802 = σ 8 := by rw [← hm2, pk_us]
  have s2 : SM m1 m2 := fun k h1 h2 => by rw [← hm2, pk_un (by omega), pk_un (by omega), pk_un (by omega)]
  have a3 : m2 3001 = m1 3001 := by rw [← hm2, pk_un (by decide), pk_un (by decide), pk_un (by decide)]
  have hw : ∀ (y : Int32) (m3 : Mem), f_X9_offGives_66 fu y (lay 4000 51 σ m3) = some (clampO y (σ 5), lay 4000 51 σ m3) := by
    intro y m3
    unfold f_X9_offGives_66
    simp only [Nat.reduceMul, Nat.reduceAdd, Int32.reduceToNatClampNeg, lm_5, mwithin_ev, doI_some, doV_some, seqM_eq, chk_t]
  unfold offT givesT
  cases ho : lastO X.1 0 N with
  | none =>
    rw [if_neg optI_neg]
    simp only [hw]
    exact ⟨m2, s2, rfl, a3⟩
  | some t =>
    have htl := (lastO_lt N ho).1
    rw [if_pos (optI_pos (by omega))]
    obtain ⟨m3, q1, q2⟩ := mgives_ev (σ := σ) hN hf hv (hm1.sm (by decide) s2) ho a0 a1 (fun _ => a2)
    rw [show optI (some t) = nI t from rfl, q2, doI_some, hw]
    exact ⟨m3, s2.trans (fun k h1 h2 => q1 k (by omega)), rfl, by rw [q1 _ (by decide), a3]⟩
theorem cgives_ev (hN : N ≤ 14) (hf : 96 < fu) (hv : TxV X N) (hc : TxC X N m) {t : Nat} (ht : lastO X.1 key N = some t) {a b d : Int32} : ∃ m2, SC m m2 ∧ f_X6_give fu (nI t) a b d m = some (giveV (X.2.2.2 t) (X.2.2.1 t) a b d, m2) := by
  obtain ⟨htN, hkey⟩ := lastO_lt N ht
  obtain ⟨hk3, -, hr⟩ := hv t htN
  obtain ⟨-, -, h3, h4⟩ := hc t htN
  exact cgive_ev (by omega) hf hr h3 h4
theorem offC_ev {t : Nat} (ht3 : t < 3) (hN : N ≤ 14) (hf : 96 < fu) (hv : TxV X N) (hc : TxC X N m) : OffC fu t m (optI (lastO X.1 0 N)) (offT X N) := by
  intro σ m1 h51 hs
  have hc1 : TxC X N (lay (70 * t) 54 σ m1) := by
    intro u hu
    obtain ⟨h1, h2, h3, h4⟩ := hc.sc hN hv hs u hu
    have ho : ∀ k, 270 ≤ k → lay (70 * t) 54 σ m1 k = m1 k := fun k hk => lay_out (by omega)
    exact ⟨by rw [ho _ (by unfold tf; omega)]; exact h1, by rw [ho _ (by unfold tf; omega)]; exact h2, by rw [ho _ (by unfold tf; omega)]; exact h3, fun i hi => by rw [ho _ (by omega)]; exact h4 i hi⟩
  unfold f_X4_turningOff
  rw [show 51 + 70 * t + (0 : Int32).toNatClampNeg = sf t 51 by simp only [Int32.reduceToNatClampNeg]; unfold sf; omega, lc_get (by decide), seqM_eq, h51, lc_get (by decide), lc_get (by decide), lc_get (by decide)]
  unfold offT givesT
  cases ho : lastO X.1 0 N with
  | none =>
    rw [if_neg optI_neg]
    exact ⟨m1, SC.refl, rfl⟩
  | some u =>
    have htl := (lastO_lt N ho).1
    rw [if_pos (optI_pos (by omega))]
    obtain ⟨m3, q1, q2⟩ := cgives_ev (a := σ 6) (b := σ 5) (d := σ 8) hN hf hv hc1 ho
    have e : m3 = lay (70 * t) 54 σ m3 := lay_of (fun k hk => by rw [q1 _ (by omega), lay_in hk])
    have e2 : lay (70 * t) 54 σ m3 = lay (70 * t) 54 σ (fun k => if 800 ≤ k ∧ k < 896 then m3 k else m1 k) := by
      funext k
      unfold lay
      by_cases hk : 70 * t ≤ k ∧ k < 70 * t + 54
      · rw [if_pos hk, if_pos hk]
      · rw [if_neg hk, if_neg hk]
        show m3 k = (if 800 ≤ k ∧ k < 896 then m3 k else m1 k)
        by_cases h7 : 800 ≤ k ∧ k < 896
        · rw [if_pos h7]
        · rw [if_neg h7, q1 k h7, lay_out (by omega)]
    refine ⟨fun k => if 800 ≤ k ∧ k < 896 then m3 k else m1 k, fun j hj => if_neg hj, ?_⟩
    rw [show optI (some u) = nI u from rfl, q2, doI_some, ← e2, ← e]
end OFFS
