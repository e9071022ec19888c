/-! PURE: THE INVARIANT between the class's memory and the reference's -/
def WOK (n : Nat) (σ : Row) : Prop := ∀ v, v < n → ∃ w, 1 ≤ w ∧ w ≤ 60 ∧ σ (ps v 1) = nI w
/-- two rows that are the same where somebody looks -/
def Lv (n : Nat) (σ τ : Row) : Prop := ∀ q, q < 16 + 7 * n → τ q = σ q
def RW (n : Nat) (σ τ : Row) (m : Mem) : Prop := (∀ k, k < 54 → m k = σ k) ∧ (∀ k, k < 51 → m (4000 + k) = τ k) ∧ Lv n σ τ ∧ ROK 9999 n σ ∧ WOK n σ
def CNT (X : TxS) (N : Nat) (σ : Row) : Prop := σ 15 = nI N ∧ ∀ key, key < 3 → σ (51 + key) = optI (lastO X.1 key N)
def TXI (X : TxS) (N : Nat) (m : Mem) : Prop := N ≤ 14 ∧ TxV X N ∧ TxC X N m ∧ TxM 4000 X N m
def IMG (X : TxS) (N : Nat) (m : Mem) : Prop := m 3000 = m 270 ∧ (m 270 = 0 ∨ (m 270 = 1 ∧ ∃ (n2 N2 : Nat) (ι κ : Row), (∀ k, k < 54 → m (140 + k) = ι k) ∧ (∀ k, k < 51 → m (5500 + k) = κ k) ∧ Lv n2 ι κ ∧ ROK 9999 n2 ι ∧ WOK n2 ι ∧ N2 ≤ N ∧ CNT X N2 ι ∧ TxM 5500 X N2 m))
def TAPE (m : Mem) : Prop := ∃ n, n ≤ 96 ∧ m 280 = nI n ∧ m 3002 = nI n ∧ ∀ k, k < n → m (3200 + k) = m (900 + k) ∧ ∃ b, b < 256 ∧ m (900 + k) = nI b
def okCell (v : Int32) : Prop := v = -1000000005 ∨ ((-99999 : Int32) ≤ v ∧ v ≤ 99999)
def SHT (m : Mem) : Prop := ∀ s, s < 4 → (m (hf s 0) = -1 ∨ m (hf s 0) = 0 ∨ m (hf s 0) = 1) ∧ m (3810 + s) = m (hf s 0) ∧ (∃ z, z ≤ 24 ∧ m (hf s 1) = nI z ∧ m (3820 + s) = nI z) ∧ ∀ k, k < 24 → m (3830 + 24 * s + k) = m (500 + 24 * s + k) ∧ okCell (m (500 + 24 * s + k))
def SLT (m : Mem) : Prop := ∀ j, j < 5 → ∃ h, h < 4 ∧ m (lf j 0) = nI h ∧ m (3930 + j) = nI h ∧ (h = 1 → m (3940 + j) = m (vf (30 + j) 0) ∧ m (3950 + j) = worthP (m (vf (30 + j) 0)) (m (vf (30 + j) 2))) ∧ (h = 2 → (∃ z, z ≤ 24 ∧ m (hf (4 + j) 1) = nI z ∧ m (3940 + j) = nI z) ∧ ∀ k, k < 24 → m (8500 + 24 * j + k) = m (500 + 24 * (4 + j) + k)) ∧ (h = 3 → m (3940 + j) = m (lf j 1))
def WTG (m : Mem) : Prop := ∃ n, n ≤ 60 ∧ m 271 = nI n ∧ m 3012 = nI n ∧ ∀ k, k < n → m (8650 + k) = m (400 + k)
def KST (m : Mem) : Prop := (m 3300 = 111 ∧ m 3301 = 102 ∧ m 3302 = 102 ∧ m 3303 = 102 ∧ m 3304 = 101 ∧ m 3305 = 101 ∧ m 3306 = 102 ∧ m 3307 = 105 ∧ m 3308 = 110 ∧ m 3309 = 101) ∧ m 3320 = 0 ∧ m 3321 = 3 ∧ m 3322 = 6 ∧ m 3323 = 10
def Inv (m : Mem) : Prop := ∃ (n N : Nat) (σ τ : Row) (X : TxS), RW n σ τ m ∧ CNT X N σ ∧ TXI X N m ∧ IMG X N m ∧ TAPE m ∧ SHT m ∧ SLT m ∧ WTG m ∧ KST m
def Op (fX fM : Mem → Option (Int32 × Mem)) (m : Mem) : Prop := ∃ (r : Int32) (m1 m2 : Mem), fX m = some (r, m1) ∧ fM m1 = some (r, m2) ∧ Inv m2
def sTX : List (Nat × Nat) := [(330, 372), (1100, 2444), (4051, 5423)]
def sIM : List (Nat × Nat) := [(140, 194), (270, 271), (3000, 3001), (5500, 6923)]
def sTA : List (Nat × Nat) := [(280, 281), (900, 996), (3002, 3003), (3200, 3296)]
def sSH : List (Nat × Nat) := [(300, 308), (500, 596), (3810, 3814), (3820, 3824), (3830, 3926)]
def sSL : List (Nat × Nat) := [(226, 261), (308, 318), (320, 330), (596, 716), (3930, 3935), (3940, 3945), (3950, 3955), (8500, 8620)]
def sWT : List (Nat × Nat) := [(271, 272), (400, 460), (3012, 3013), (8650, 8710)]
def sKS : List (Nat × Nat) := [(3300, 3310), (3320, 3324)]
def sRW : List (Nat × Nat) := [(0, 54), (4000, 4051)]
/-- what nobody looks at between calls -/
def scr : List (Nat × Nat) := [(70, 124), (272, 274), (281, 289), (372, 375), (800, 896), (1000, 1096), (2444, 2540), (3001, 3002), (3003, 3012), (3100, 3170), (3400, 3610), (3700, 3804), (3960, 3984), (7000, 8423)]
section KEEP
variable {m m' : Mem} {X : TxS} {N n : Nat} {σ τ : Row}
theorem onS_of {S : List (Nat × Nat)} (i : Nat) {a b k : Nat} (h : S[i]? = some (a, b)) (h1 : a ≤ k) (h2 : k < b) : onS S k := ⟨(a, b), List.mem_of_getElem? h, h1, h2⟩
theorem RW.on (h : ∀ k, onS sRW k → m' k = m k) (hp : RW n σ τ m) : RW n σ τ m' := by
  obtain ⟨h1, h2, h3⟩ := hp
  exact ⟨fun k hk => by rw [h k (onS_of 0 rfl (by omega) (by omega))]; exact h1 k hk, fun k hk => by rw [h _ (onS_of 1 rfl (by omega) (by omega))]; exact h2 k hk, h3⟩
theorem TXI.on (h : ∀ k, onS sTX k → m' k = m k) (hp : TXI X N m) : TXI X N m' := by
  obtain ⟨hN, hv, hc, hm⟩ := hp
  refine ⟨hN, hv, fun t ht => ?_, fun t ht => ?_⟩
  · obtain ⟨a, b, c, d⟩ := hc t ht
    have hz := (hv t ht).2.2.1
    exact ⟨by rw [h _ (onS_of 0 rfl (by unfold tf; omega) (by unfold tf; omega))]; exact a, by rw [h _ (onS_of 0 rfl (by unfold tf; omega) (by unfold tf; omega))]; exact b, by rw [h _ (onS_of 0 rfl (by unfold tf; omega) (by unfold tf; omega))]; exact c, fun i hi => by rw [h _ (onS_of 1 rfl (by omega) (by omega))]; exact d i hi⟩
  · obtain ⟨a, b, c⟩ := hm t ht
    have hz := (hv t ht).2.2.1
    exact ⟨by rw [h _ (onS_of 2 rfl (by omega) (by omega))]; exact a, by rw [h _ (onS_of 2 rfl (by omega) (by omega))]; exact b, fun i hi => by rw [h _ (onS_of 2 rfl (by omega) (by omega))]; exact c i hi⟩
theorem IMG.on (hv : TxV X N) (hN : N ≤ 14) (h : ∀ k, onS sIM k → m' k = m k) (hp : IMG X N m) : IMG X N m' := by
  obtain ⟨h0, h1⟩ := hp
  have e1 : m' 270 = m 270 := h _ (onS_of 1 rfl (by decide) (by decide))
  have e2 : m' 3000 = m 3000 := h _ (onS_of 2 rfl (by decide) (by decide))
  unfold IMG
  rw [e1, e2]
  refine ⟨h0, ?_⟩
  rcases h1 with h1 | ⟨h1, n2, N2, ι, κ, a, b, z, c, d, e, f, g⟩
  · exact Or.inl h1
  · refine Or.inr ⟨h1, n2, N2, ι, κ, fun k hk => by rw [h _ (onS_of 0 rfl (by omega) (by omega))]; exact a k hk, fun k hk => by rw [h _ (onS_of 3 rfl (by omega) (by omega))]; exact b k hk, z, c, d, e, f, fun t ht => ?_⟩
    obtain ⟨a, b, c⟩ := g t ht
    have hz := (hv t (by omega)).2.2.1
    exact ⟨by rw [h _ (onS_of 3 rfl (by omega) (by omega))]; exact a, by rw [h _ (onS_of 3 rfl (by omega) (by omega))]; exact b, fun i hi => by rw [h _ (onS_of 3 rfl (by omega) (by omega))]; exact c i hi⟩
theorem TAPE.on (h : ∀ k, onS sTA k → m' k = m k) (hp : TAPE m) : TAPE m' := by
  obtain ⟨n, hn, a, b, c⟩ := hp
  refine ⟨n, hn, by rw [h _ (onS_of 0 rfl (by decide) (by decide))]; exact a, by rw [h _ (onS_of 2 rfl (by decide) (by decide))]; exact b, fun k hk => ?_⟩
  rw [h _ (onS_of 3 rfl (show 3200 ≤ 3200 + k by omega) (by omega)), h _ (onS_of 1 rfl (show 900 ≤ 900 + k by omega) (by omega))]
  exact c k hk
theorem SHT.on (h : ∀ k, onS sSH k → m' k = m k) (hp : SHT m) : SHT m' := by
  intro s hs
  obtain ⟨a, b, c, d⟩ := hp s hs
  rw [h (hf s 0) (onS_of 0 rfl (by unfold hf; omega) (by unfold hf; omega)), h (hf s 1) (onS_of 0 rfl (by unfold hf; omega) (by unfold hf; omega)), h (3810 + s) (onS_of 2 rfl (by omega) (by omega)), h (3820 + s) (onS_of 3 rfl (by omega) (by omega))]
  refine ⟨a, b, c, fun k hk => ?_⟩
  rw [h (3830 + 24 * s + k) (onS_of 4 rfl (by omega) (by omega)), h (500 + 24 * s + k) (onS_of 1 rfl (by omega) (by omega))]
  exact d k hk
theorem SLT.on (h : ∀ k, onS sSL k → m' k = m k) (hp : SLT m) : SLT m' := by
  intro j hj
  obtain ⟨q, hq, a, b, c, d, e⟩ := hp j hj
  rw [h (lf j 0) (onS_of 2 rfl (by unfold lf; omega) (by unfold lf; omega)), h (lf j 1) (onS_of 2 rfl (by unfold lf; omega) (by unfold lf; omega)), h (3930 + j) (onS_of 4 rfl (by omega) (by omega)), h (3940 + j) (onS_of 5 rfl (by omega) (by omega)), h (3950 + j) (onS_of 6 rfl (by omega) (by omega)), h (vf (30 + j) 0) (onS_of 0 rfl (by unfold vf; omega) (by unfold vf; omega)), h (vf (30 + j) 2) (onS_of 0 rfl (by unfold vf; omega) (by unfold vf; omega)), h (hf (4 + j) 1) (onS_of 1 rfl (by unfold hf; omega) (by unfold hf; omega))]
  refine ⟨q, hq, a, b, c, fun z => ?_, e⟩
  refine ⟨(d z).1, fun k hk => ?_⟩
  rw [h (8500 + 24 * j + k) (onS_of 7 rfl (by omega) (by omega)), h (500 + 24 * (4 + j) + k) (onS_of 3 rfl (by omega) (by omega))]
  exact (d z).2 k hk
theorem WTG.on (h : ∀ k, onS sWT k → m' k = m k) (hp : WTG m) : WTG m' := by
  obtain ⟨n, hn, a, b, c⟩ := hp
  refine ⟨n, hn, by rw [h _ (onS_of 0 rfl (by decide) (by decide))]; exact a, by rw [h _ (onS_of 2 rfl (by decide) (by decide))]; exact b, fun k hk => ?_⟩
  rw [h (8650 + k) (onS_of 3 rfl (by omega) (by omega)), h (400 + k) (onS_of 1 rfl (by omega) (by omega))]
  exact c k hk
theorem KST.on (h : ∀ k, onS sKS k → m' k = m k) (hp : KST m) : KST m' := by
  unfold KST
  rw [h 3300 (onS_of 0 rfl (by decide) (by decide)), h 3301 (onS_of 0 rfl (by decide) (by decide)), h 3302 (onS_of 0 rfl (by decide) (by decide)), h 3303 (onS_of 0 rfl (by decide) (by decide)), h 3304 (onS_of 0 rfl (by decide) (by decide)), h 3305 (onS_of 0 rfl (by decide) (by decide)), h 3306 (onS_of 0 rfl (by decide) (by decide)), h 3307 (onS_of 0 rfl (by decide) (by decide)), h 3308 (onS_of 0 rfl (by decide) (by decide)), h 3309 (onS_of 0 rfl (by decide) (by decide)), h 3320 (onS_of 1 rfl (by decide) (by decide)), h 3321 (onS_of 1 rfl (by decide) (by decide)), h 3322 (onS_of 1 rfl (by decide) (by decide)), h 3323 (onS_of 1 rfl (by decide) (by decide))]
  exact hp
/-- only scratch has changed -/
theorem inv_scr (hI : Inv m) (hf : Fr scr m m') : Inv m' := by
  obtain ⟨n, N, σ, τ, X, h1, h2, h3, h4, h5, h6, h7, h8, h9⟩ := hI
  exact ⟨n, N, σ, τ, X, h1.on (hf.on (by decide)), h2, h3.on (hf.on (by decide)), h4.on h3.2.1 h3.1 (hf.on (by decide)), h5.on (hf.on (by decide)), h6.on (hf.on (by decide)), h7.on (hf.on (by decide)), h8.on (hf.on (by decide)), h9.on (hf.on (by decide))⟩
/-- the row of both has become another -/
theorem inv_row {n' : Nat} {σ' τ' : Row} (h2 : CNT X N σ) (h3 : TXI X N m) (h4 : IMG X N m) (h5 : TAPE m) (h6 : SHT m) (h7 : SLT m) (h8 : WTG m) (h9 : KST m) (hf : Fr (sRW ++ scr) m m') (hr : ∀ k, k < 54 → m' k = σ' k) (hr2 : ∀ k, k < 51 → m' (4000 + k) = τ' k) (hle : Lv n' σ' τ') (hk : ROK 9999 n' σ') (hw : WOK n' σ') (h15 : σ' 15 = σ 15) (h51 : ∀ key, key < 3 → σ' (51 + key) = σ (51 + key)) : Inv m' :=
  ⟨n', N, σ', τ', X, ⟨hr, hr2, hle, hk, hw⟩, ⟨by rw [h15]; exact h2.1, fun key hkey => by rw [h51 key hkey]; exact h2.2 key hkey⟩, h3.on (hf.on (by decide)), h4.on h3.2.1 h3.1 (hf.on (by decide)), h5.on (hf.on (by decide)), h6.on (hf.on (by decide)), h7.on (hf.on (by decide)), h8.on (hf.on (by decide)), h9.on (hf.on (by decide))⟩
/-- both rows of the memory, as rows laid over it -/
theorem RW.layC (h : RW n σ τ m) : m = lay (70 * 0) 54 σ m := lay_of (fun k hk => by rw [show 70 * 0 + k = k by omega]; exact h.1 k hk)
theorem RW.layM (h : RW n σ τ m) : m = lay 4000 51 τ m := lay_of h.2.1
theorem layCM {σ τ : Row} : lay 4000 51 σ (lay (70 * 0) 54 τ m) = lay (70 * 0) 54 τ (lay 4000 51 σ m) := by
  funext k
  unfold lay
  by_cases h1 : 4000 ≤ k ∧ k < 4000 + 51
  · rw [if_pos h1, if_neg (by omega), if_pos h1]
  · rw [if_neg h1]
    by_cases h2 : 70 * 0 ≤ k ∧ k < 70 * 0 + 54
    · rw [if_pos h2, if_pos h2]
    · rw [if_neg h2, if_neg h2, if_neg h1]
end KEEP
def RowRes (fX fM : Mem → Option (Int32 × Mem)) (m : Mem) (X : TxS) (N n : Nat) (σ : Row) : Prop := ∃ (r : Int32) (n' : Nat) (σ' : Row), ROK 9999 n' σ' ∧ WOK n' σ' ∧ σ' 15 = σ 15 ∧ (∀ key, key < 3 → σ' (51 + key) = σ (51 + key)) ∧ (∃ m1, Fr scr m m1 ∧ fX (lay (70 * 0) 54 σ m) = some (r, lay (70 * 0) 54 σ' m1)) ∧ (∀ τ, Lv n σ τ → ∀ m0, TXI X N m0 → ∃ τ' m2, Lv n' σ' τ' ∧ Fr scr m0 m2 ∧ fM (lay 4000 51 τ m0) = some (r, lay 4000 51 τ' m2))
/-- an act on the row alone: the class does it on its row, the reference on its own -/
theorem op_row {m : Mem} {fX fM : Mem → Option (Int32 × Mem)} (hI : Inv m) (h : ∀ (n N : Nat) (σ : Row) (X : TxS), CNT X N σ → TXI X N m → ROK 9999 n σ → WOK n σ → RowRes fX fM m X N n σ) : Op fX fM m := by
  obtain ⟨n, N, σ, τ, X, h1, h2, h3, h4, h5, h6, h7, h8, h9⟩ := hI
  obtain ⟨r, n', σ', k1, k2, k3, k4, ⟨m1, f1, e1⟩, hM⟩ := h n N σ X h2 h3 h1.2.2.2.1 h1.2.2.2.2
  rw [← h1.layC] at e1
  have hx : lay (70 * 0) 54 σ' m1 = lay 4000 51 τ (lay (70 * 0) 54 σ' m1) := lay_of (fun k hk => by
    rw [lay_out (by omega), f1 _ (fun p hp => by
      have : scr.all (fun p => Nat.ble p.2 4000 || Nat.ble 4051 p.1) = true := by decide
      have := List.all_eq_true.mp this p hp
      simp only [Bool.or_eq_true, Nat.ble_eq] at this
      omega)]
    exact h1.2.1 k hk)
  have hfr : Fr (sRW ++ scr) m (lay (70 * 0) 54 σ' m1) := by
    have a : Fr (scr ++ [(70 * 0, 70 * 0 + 54)]) m (lay (70 * 0) 54 σ' m1) := f1.trans Fr.lay
    exact a.sub (by decide)
  obtain ⟨τ', m2, hle, f2, e2⟩ := hM τ h1.2.2.1 (lay (70 * 0) 54 σ' m1) (h3.on (hfr.on (by decide)))
  rw [← hx] at e2
  have hfr2 : Fr (sRW ++ scr) m (lay 4000 51 τ' m2) := by
    have a := (hfr.trans f2).trans (Fr.lay (b := 4000) (n := 51) (σ := τ'))
    exact a.sub (by decide)
  refine ⟨r, _, _, e1, e2, inv_row h2 h3 h4 h5 h6 h7 h8 h9 hfr2 (fun k hk => ?_) (fun k hk => lay_in hk) hle k1 k2 k3 k4⟩
  rw [lay_out (by omega), f2 k (fun p hp => by
    have : scr.all (fun p => Nat.ble 54 p.1) = true := by decide
    have := List.all_eq_true.mp this p hp
    simp only [Nat.ble_eq] at this
    omega)]
  have := @lay_in (70 * 0) 54 k σ' m1 hk
  rw [show 70 * 0 + k = k by omega] at this
  exact this
/-! what is the same on such rows -/
section LES
variable {n v : Nat} {σ τ : Row}
theorem Lv.refl : Lv n σ σ := fun _ _ => rfl
theorem Lv.l (h : Lv n σ τ) {q : Nat} (hq : q < 16) : τ q = σ q := h q (by omega)
theorem Lv.f (h : Lv n σ τ) (hv : v < n) {j : Nat} (hj : j < 7) : τ (ps v j) = σ (ps v j) := h _ (by unfold ps; omega)
theorem Lv.up (h : Lv n σ τ) {q : Nat} {x : Int32} : Lv n (upd σ q x) (upd τ q x) := fun p hp => by
  by_cases e : p = q
  · subst e; rw [pk_us, pk_us]
  · rw [pk_un e, pk_un e]; exact h p hp
theorem Lv.waits (h : Lv n σ τ) (hv : v < n) : waitsS τ v = waitsS σ v := by
  unfold waitsS plainS
  rw [h.f hv (show 0 < 7 by decide), h.f hv (show 1 < 7 by decide), h.f hv (show 5 < 7 by decide), h.f hv (show 3 < 7 by decide), h.l (show 14 < 16 by decide)]
theorem Lv.talks (h : Lv n σ τ) (hv : v < n) : talksS τ v = talksS σ v := talksS_congr (h.f hv (by decide)) (h.f hv (by decide))
theorem Lv.worth (h : Lv n σ τ) (hv : v < n) : worthS τ v = worthS σ v := by
  unfold worthS
  rw [h.f hv (show 0 < 7 by decide), h.f hv (show 2 < 7 by decide)]
theorem Lv.speak (h : Lv n σ τ) : ∀ k, k ≤ n → speakN τ k = speakN σ k := by
  intro k
  induction k with
  | zero => intro _; rfl
  | succ k ih => intro hk; rw [speakN, speakN, ih (by omega), h.f (show k < n by omega) (show 4 < 7 by decide)]
theorem Lv.ready (h : Lv n σ τ) : ∀ k, k ≤ n → readyN τ k = readyN σ k := by
  intro k
  induction k with
  | zero => intro _; rfl
  | succ k ih =>
    intro hk
    have e : readyS τ k ↔ readyS σ k := by
      unfold readyS
      rw [h.f (show k < n by omega) (show 0 < 7 by decide), h.l (show 6 < 16 by decide), h.waits (show k < n by omega)]
    rw [readyN, readyN, ih (by omega)]
    by_cases q : readyS σ k
    · rw [if_pos q, if_pos (e.mpr q)]
    · rw [if_neg q, if_neg (fun z => q (e.mp z))]
theorem Lv.begin (h : Lv n σ τ) (hv : v < n) : Lv n (beginS σ v) (beginS τ v) := by
  unfold beginS
  rw [h.l (show 0 < 16 by decide), h.talks hv, h.f hv (show 6 < 7 by decide)]
  exact h.up.up.up.up
theorem Lv.back (h : Lv n σ τ) : Lv n (backS σ v) (backS τ v) := by
  unfold backS
  rw [h.l (show 0 < 16 by decide)]
  exact h.up.up
theorem Lv.cross (h : Lv n σ τ) {R : Nat} : ∀ k, k ≤ n → Lv n (crossN R σ k) (crossN R τ k) := by
  intro k
  induction k with
  | zero => intro _; exact h
  | succ k ih =>
    intro hk
    have h2 := ih (by omega)
    rw [crossN, crossN, crossV, crossV, h2.f (show k < n by omega) (show 0 < 7 by decide)]
    split
    · split
      · exact h2.back
      · exact h2.begin (by omega)
    · exact h2
theorem Lv.turn (h : Lv n σ τ) {R : Nat} : ∀ k, k ≤ n → Lv n (turnN R σ k) (turnN R τ k) := by
  intro k
  induction k with
  | zero => intro _; exact h
  | succ k ih =>
    intro hk
    have h2 := ih (by omega)
    rw [turnN, turnN, turnV, turnV, h2.l (show 14 < 16 by decide), h2.l (show 9 < 16 by decide), h2.l (show 10 < 16 by decide)]
    split
    · split
      · exact h2.up.begin (by omega)
      · exact h2.up.begin (by omega)
    · exact h2
theorem Lv.act (h : Lv n σ τ) : Lv n (actS n σ) (actS n τ) := by
  unfold actS crossS
  rw [h.ready n (Nat.le_refl _), h.l (show 11 < 16 by decide)]
  split
  · exact h.turn n (Nat.le_refl _)
  · have h2 : Lv n (crossN (readyN σ n) (upd σ 11 (σ 11 + 1)) n) (crossN (readyN σ n) (upd τ 11 (σ 11 + 1)) n) := h.up.cross n (Nat.le_refl _)
    rw [h2.speak n (Nat.le_refl _), h2.l (show 6 < 16 by decide)]
    exact h2.up
theorem Lv.hearn (h : Lv n σ τ) : ∀ k, k ≤ n → Lv n (hearN σ k) (hearN τ k) := by
  intro k
  induction k with
  | zero => intro _; exact h
  | succ k ih =>
    intro hk
    have h2 := ih (by omega)
    rw [hearN, hearN, hearV, hearV, h2.f (show k < n by omega) (show 4 < 7 by decide)]
    split
    · exact h2
    · split
      · exact h2.up.up
      · exact h2.up
theorem Lv.hear (h : Lv n σ τ) : Lv n (hearS n σ) (hearS n τ) := by
  have h2 := h.hearn n (Nat.le_refl _)
  unfold hearS stillS
  rw [h2.speak n (Nat.le_refl _), h2.l (show 6 < 16 by decide), h2.l (show 7 < 16 by decide), h2.l (show 8 < 16 by decide)]
  split
  · exact h2.up.up.up
  · exact h2.up
theorem Lv.bear (h : Lv n σ τ) {off : Off} : Lv n (bearS off σ) (bearS off τ) := by
  unfold bearS
  rw [h.l (show 3 < 16 by decide), h.l (show 4 < 16 by decide), h.l (show 5 < 16 by decide), h.l (show 6 < 16 by decide), h.l (show 8 < 16 by decide), h.l (show 12 < 16 by decide), h.l (show 13 < 16 by decide)]
  split
  · exact h.up.up.up
  · split
    · exact h.up.up.up
    · exact h.up
theorem Lv.tick (h : Lv n σ τ) : Lv n (tickS σ) (tickS τ) := by
  unfold tickS
  rw [h.l (show 2 < 16 by decide)]
  exact h.up
theorem Lv.last (h : Lv n σ τ) {off : Off} : Lv n (lastS off n σ) (lastS off n τ) := by
  unfold lastS
  rw [h.speak n (Nat.le_refl _), h.l (show 6 < 16 by decide)]
  split
  · exact h.bear
  · exact h
theorem Lv.goOn (h : Lv n σ τ) {off : Off} : Lv n (goOnS off n σ) (goOnS off n τ) := by
  unfold goOnS
  rw [h.speak n (Nat.le_refl _)]
  split
  · exact h.act.last.tick
  · exact h.last.tick
theorem Lv.tenth (h : Lv n σ τ) {off : Off} : Lv n (tenthS off n σ) (tenthS off n τ) := h.hear.goOn
theorem Lv.tenths {off : Off} : ∀ (k : Nat) {σ τ : Row}, Lv n σ τ → Lv n (tenthsS off n k σ) (tenthsS off n k τ) := by
  intro k
  induction k with
  | zero => intro σ τ h; exact h
  | succ k ih => intro σ τ h; exact ih h.tenth
theorem Lv.rok {B : Nat} (h : Lv n σ τ) (hk : ROK B n σ) : ROK B n τ := by
  obtain ⟨a, b, c, d⟩ := hk
  refine ⟨by rw [h.l (by decide)]; exact a, b, fun w hw => (c w hw).congr (fun j hj => h.f hw (by omega)), ?_⟩
  unfold SCA
  rw [h.l (show 5 < 16 by decide), h.l (show 2 < 16 by decide), h.l (show 6 < 16 by decide), h.l (show 8 < 16 by decide), h.l (show 12 < 16 by decide)]
  exact d
theorem Lv.wok (h : Lv n σ τ) (hw : WOK n σ) : WOK n τ := fun u hu => by rw [h.f hu (by decide)]; exact hw u hu
end LES
