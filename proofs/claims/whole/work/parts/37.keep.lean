/-! PURE: keep, back -/
section KEEPB
variable {fu n N v k B : Nat} {σ τ ρ : Row} {m M M' : Mem} {X : TxS} {x x1 x2 x3 : Int32}
theorem copyAll_L {a b : Nat} (hab : a ≠ b) : ∀ (f i : Nat), i ≤ 1423 → 1423 - i < f → f_X9_copyAll_2 fu f a b (nI i) (lay (4000 + 1500 * b) i (fun q => m (4000 + 1500 * a + q)) m) = some (lay (4000 + 1500 * b) 1423 (fun q => m (4000 + 1500 * a + q)) m) := by
  intro f
  induction f with
  | zero => intro i _ h; omega
  | succ f ih =>
    intro i hi hf
    rw [f_X9_copyAll_2]
    by_cases he : i = 1423
    · subst he
      rw [if_pos (by decide)]
    · rw [if_neg (by rw [show (1423 : Int32) = nI 1423 from rfl]; exact nI_ge (by omega) (by decide)), inb_nI (show i < 1423 by omega) (by decide)]
      simp only [doI_some, doV_some, seqM_eq, chk_t]
      rw [nI_clamp (by omega), lay_out (k := 4000 + 1500 * a + i) (by omega), nI_1]
      have := lay_snoc (σ := fun q => m (4000 + 1500 * a + q)) (m := m) (b := 4000 + 1500 * b) (i := i)
      rw [this]
      exact ih (i + 1) (by omega) (by omega)
theorem copyAll_ev {a b : Nat} (hf : 1423 < fu) (hab : a ≠ b) : f_X9_copyAll fu a b m = some (lay (4000 + 1500 * b) 1423 (fun q => m (4000 + 1500 * a + q)) m) := by
  have h := copyAll_L (fu := fu) (m := m) hab fu 0 (by decide) (by omega)
  have e : lay (4000 + 1500 * b) 0 (fun q => m (4000 + 1500 * a + q)) m = m := by funext k; unfold lay; rw [if_neg (by omega)]
  rw [e] at h
  exact h
theorem TxM.cp {b c : Nat} (hN : N ≤ 14) (hv : TxV X N) (hm : TxM b X N m) (h : ∀ q, 51 ≤ q → q < 1423 → M (c + q) = m (b + q)) : TxM c X N M := fun t ht => by
  obtain ⟨x, y, z⟩ := hm t ht
  have hz := (hv t ht).2.2.1
  refine ⟨?_, ?_, fun i hi => ?_⟩
  · rw [show c + 51 + 2 * t = c + (51 + 2 * t) by omega, h _ (by omega) (by omega), ← x]; congr 1; omega
  · rw [show c + 52 + 2 * t = c + (52 + 2 * t) by omega, h _ (by omega) (by omega), ← y]; congr 1; omega
  · rw [show c + 79 + 96 * t + i = c + (79 + 96 * t + i) by omega, h _ (by omega) (by omega), ← z i hi]; congr 1; omega
theorem op_keep (hf : 1423 < fu) (hI : Inv m) : Op (f_X8_keep fu) (f_X9_keep fu) m := by
  obtain ⟨n, N, σ, τ, X, h1, h2, h3, h4, h5, h6, h7, h8, h9⟩ := hI
  have hk := h1.2.2.2.1
  have hn := hk.2.1
  obtain ⟨ι, l1, l2, e1⟩ := become_row (fu := fu) (t0 := 2) (t1 := 0) (m := m) (σ := σ) (by decide) hn (by omega) (fun q hq => by rw [show 70 * 0 + q = q by omega]; exact h1.1 q hq) hk.1
  have f1 : Fr [(140, 194), (270, 271)] m (upd (lay (70 * 2) 54 ι m) 270 1) := fun j hj => by
    have p1 := hj (140, 194) (by decide)
    have p2 := hj (270, 271) (by decide)
    simp only at p1 p2
    rw [pk_un (by omega), lay_out (by omega)]
  generalize hm1 : upd (lay (70 * 2) 54 ι m) 270 1 = m1 at f1
  have c2 := copyAll_ev (fu := fu) (m := m1) (a := 0) (b := 1) hf (by decide)
  have f2 : Fr sIM m (upd (lay (4000 + 1500 * 1) 1423 (fun q => m1 (4000 + 1500 * 0 + q)) m1) 3000 1) := fun j hj => by
    have p1 := hj (140, 194) (by decide)
    have p2 := hj (270, 271) (by decide)
    have p3 := hj (3000, 3001) (by decide)
    have p4 := hj (5500, 6923) (by decide)
    simp only at p1 p2 p3 p4
    rw [pk_un (by omega), lay_out (by omega)]
    exact f1 j (fun p hp => by
      simp only [List.mem_cons, List.not_mem_nil, or_false] at hp
      rcases hp with rfl | rfl
      · exact p1
      · exact p2)
  have r4 : ∀ q, q < 1423 → m1 (4000 + q) = m (4000 + q) := fun q hq => f1 _ (fun p hp => by
      simp only [List.mem_cons, List.not_mem_nil, or_false] at hp
      rcases hp with rfl | rfl <;> simp only <;> omega)
  have a4 : m1 (4000 + 1500 * 0 + 1) = nI n := by
    rw [show 4000 + 1500 * 0 + 1 = 4000 + 1 from rfl, r4 1 (by decide), h1.r (by decide)]
    exact hk.1
  refine ⟨nI n, m1, upd (lay (4000 + 1500 * 1) 1423 (fun q => m1 (4000 + 1500 * 0 + q)) m1) 3000 1, ?_, ?_, ?_⟩
  · unfold f_X8_keep
    rw [e1, doV_some, seqM_eq, pk_un (by decide), lc_get (by decide), hm1, l1.l (by decide), hk.1]
  · unfold f_X9_keep
    rw [c2, doV_some, seqM_eq, show 4000 + 1500 * 0 + (1 : Int32).toNatClampNeg = 4000 + 1500 * 0 + 1 by decide, pk_un (by decide), lay_out (by decide), a4]
  · refine ⟨n, N, σ, τ, X, h1.on (f2.on (by decide)), h2, h3.on (f2.on (by decide)), ?_, h5.on (f2.on (by decide)), h6.on (f2.on (by decide)), h7.on (f2.on (by decide)), h8.on (f2.on (by decide)), h9.on (f2.on (by decide))⟩
    have m270 : m1 270 = 1 := by rw [← hm1, pk_us]
    have e270 : (upd (lay (4000 + 1500 * 1) 1423 (fun q => m1 (4000 + 1500 * 0 + q)) m1) 3000 1) 270 = 1 := by rw [pk_un (by decide), lay_out (by decide), m270]
    have r5 : ∀ q, q < 1423 → (upd (lay (4000 + 1500 * 1) 1423 (fun q => m1 (4000 + 1500 * 0 + q)) m1) 3000 1) (5500 + q) = m (4000 + q) := fun q hq => by
      rw [pk_un (by omega)]
      have := @lay_in (4000 + 1500 * 1) 1423 q (fun q => m1 (4000 + 1500 * 0 + q)) m1 hq
      exact this.trans (r4 q hq)
    refine ⟨by rw [pk_us, e270], Or.inr ⟨e270, n, N, ι, τ, fun q hq => ?_, fun q hq => ?_, fun q hq => ?_, l1.rok hk, l1.wok h1.2.2.2.2, Nat.le_refl _, ⟨?_, fun key hkey => ?_⟩, ?_⟩⟩
    · rw [pk_un (by omega), lay_out (by omega), ← hm1, pk_un (by omega)]
      exact lay_in (b := 70 * 2) hq
    · rw [r5 q (by omega)]
      exact h1.2.1 q hq
    · rw [h1.2.2.1 q hq, l1 q hq]
    · rw [l1.l (by decide)]; exact h2.1
    · rw [l2 key hkey]; exact h2.2 key hkey
    · exact h3.2.2.2.cp h3.1 h3.2.1 (fun q _ hq => r5 q hq)
theorem op_back (hf : 1423 < fu) (hI : Inv m) : Op (f_X8_back fu) (f_X9_back fu) m := by
  have hI0 := hI
  obtain ⟨n, N, σ, τ, X, h1, h2, h3, ⟨i0, h4⟩, h5, h6, h7, h8, h9⟩ := hI
  rcases h4 with h4 | ⟨i1, n2, N2, ι, κ, a, b, z, c, d, e, f, g⟩
  · refine op_pure hI0 (-1000000002) ?_ ?_
    · unfold f_X8_back
      rw [h4, if_pos rfl]
    · unfold f_X9_back
      rw [i0, h4, if_pos rfl]
  · have hn := c.2.1
    obtain ⟨ι0, l1, l2, e1⟩ := become_row (fu := fu) (t0 := 0) (t1 := 2) (m := m) (σ := ι) (by decide) hn (by omega) (fun q hq => a q hq) c.1
    have c2 := copyAll_ev (fu := fu) (m := lay (70 * 0) 54 ι0 m) (a := 1) (b := 0) hf (by decide)
    have f2 : Fr [(0, 54), (4000, 5423)] m (lay (4000 + 1500 * 0) 1423 (fun q => (lay (70 * 0) 54 ι0 m) (4000 + 1500 * 1 + q)) (lay (70 * 0) 54 ι0 m)) := fun j hj => by
      have p1 := hj (0, 54) (by decide)
      have p2 := hj (4000, 5423) (by decide)
      simp only at p1 p2
      rw [lay_out (by omega), lay_out (by omega)]
    have r4 : ∀ q, q < 1423 → (lay (4000 + 1500 * 0) 1423 (fun q => (lay (70 * 0) 54 ι0 m) (4000 + 1500 * 1 + q)) (lay (70 * 0) 54 ι0 m)) (4000 + q) = m (5500 + q) := fun q hq => by
      have := @lay_in (4000 + 1500 * 0) 1423 q (fun q => (lay (70 * 0) 54 ι0 m) (4000 + 1500 * 1 + q)) (lay (70 * 0) 54 ι0 m) hq
      refine this.trans ?_
      show (lay (70 * 0) 54 ι0 m) (4000 + 1500 * 1 + q) = _
      rw [lay_out (by omega)]
    refine ⟨nI n2, lay (70 * 0) 54 ι0 m, lay (4000 + 1500 * 0) 1423 (fun q => (lay (70 * 0) 54 ι0 m) (4000 + 1500 * 1 + q)) (lay (70 * 0) 54 ι0 m), ?_, ?_, ?_⟩
    · unfold f_X8_back
      rw [i1, if_neg (by decide), e1, doV_some, lc_get (by decide), l1.l (by decide), c.1]
    · unfold f_X9_back
      have : (lay (70 * 0) 54 ι0 m) 3000 = 1 := by rw [lay_out (by omega), i0, i1]
      rw [this, if_neg (by decide), c2, doV_some, show 4000 + 1500 * 0 + (1 : Int32).toNatClampNeg = 4000 + 1 by decide, r4 1 (by decide), b 1 (by decide), z.l (by decide), c.1]
    · refine ⟨n2, N2, ι0, κ, X, ⟨fun q hq => ?_, fun q hq => ?_, fun q hq => ?_, l1.rok c, l1.wok d⟩, ⟨by rw [l1.l (by decide)]; exact f.1, fun key hkey => by rw [l2 key hkey]; exact f.2 key hkey⟩, ⟨Nat.le_trans e h3.1, fun t ht => h3.2.1 t (by omega), ?_, ?_⟩, ?_, h5.on (f2.on (by decide)), h6.on (f2.on (by decide)), h7.on (f2.on (by decide)), h8.on (f2.on (by decide)), h9.on (f2.on (by decide))⟩
      · rw [lay_out (by omega)]
        have := @lay_in (70 * 0) 54 q ι0 m hq
        rw [show 70 * 0 + q = q by omega] at this
        exact this
      · rw [r4 q (by omega)]; exact b q hq
      · rw [z q hq, l1 q hq]
      · intro t ht
        obtain ⟨q1, q2, q3, q4⟩ := h3.2.2.1 t (by omega)
        have hz := (h3.2.1 t (by omega)).2.2.1
        have hN := h3.1
        have ho := f2.on (S := [(330, 372), (1100, 2444)]) (by decide)
        exact ⟨by rw [ho _ (onS_of 0 rfl (by unfold tf; omega) (by unfold tf; omega))]; exact q1, by rw [ho _ (onS_of 0 rfl (by unfold tf; omega) (by unfold tf; omega))]; exact q2, by rw [ho _ (onS_of 0 rfl (by unfold tf; omega) (by unfold tf; omega))]; exact q3, fun i hi => by rw [ho _ (onS_of 1 rfl (by omega) (by omega))]; exact q4 i hi⟩
      · have hN := h3.1
        exact g.cp (by omega) (fun t ht => h3.2.1 t (by omega)) (fun q _ hq => r4 q hq)
      · have h4' : IMG X N2 m := ⟨i0, Or.inr ⟨i1, n2, N2, ι, κ, a, b, z, c, d, Nat.le_refl _, f, g⟩⟩
        have hN := h3.1
        exact h4'.on (fun t ht => h3.2.1 t (by omega)) (by omega) (f2.on (by decide))
end KEEPB
