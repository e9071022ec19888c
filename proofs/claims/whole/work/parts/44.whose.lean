/-! PURE: whose -/
section WHOSE
variable {fu n N v k B s z : Nat} {σ τ ρ : Row} {m M M' : Mem} {X : TxS} {x x1 x2 x3 : Int32}
theorem lg_pos (a b : Int64) : (0 ≤ lg_cmp a b) = ¬ a < b := by
  unfold lg_cmp
  by_cases h : a > b
  · rw [if_pos h]
    have h' := Int64.lt_iff_toInt_lt.mp h
    refine propext ⟨fun _ z => ?_, fun _ => by decide⟩
    have := Int64.lt_iff_toInt_lt.mp z
    omega
  · rw [if_neg h]
    by_cases e : a = b
    · rw [if_pos e, e]
      refine propext ⟨fun _ z => ?_, fun _ => by decide⟩
      have := Int64.lt_iff_toInt_lt.mp z
      omega
    · rw [if_neg e]
      refine propext ⟨fun z => absurd z (by decide), fun z => absurd ?_ z⟩
      rw [Int64.lt_iff_toInt_lt]
      have h1 : ¬ b.toInt < a.toInt := fun q => h (Int64.lt_iff_toInt_lt.mpr q)
      have h2 : ¬ a.toInt = b.toInt := fun q => e (Int64.toInt_inj.mp q)
      omega
def dab (a c : Int32) : Nat := (a.toInt - c.toInt).natAbs
theorem okC {c : Int32} (h : okCell c) (h5 : ¬ c = -1000000005) : -99999 ≤ c.toInt ∧ c.toInt ≤ 99999 := by
  rcases h with h | ⟨h1, h2⟩
  · exact absurd h h5
  · have a := Int32.le_iff_toInt_le.mp h1
    have b := Int32.le_iff_toInt_le.mp h2
    have e1 : (-99999 : Int32).toInt = -99999 := by decide
    have e2 : (99999 : Int32).toInt = 99999 := by decide
    omega
theorem dab_le {l : Nat} {c : Int32} (hl : l ≤ 65) (hc : -99999 ≤ c.toInt ∧ c.toInt ≤ 99999) : dab (nI l) c ≤ 100100 := by
  unfold dab
  rw [nI_toInt (by omega)]
  omega
theorem cabs {l : Nat} {c : Int32} (hl : l ≤ 65) (hc : -99999 ≤ c.toInt ∧ c.toInt ≤ 99999) : (if 0 ≤ (nI l - c) then (nI l - c) else 0 - (nI l - c)) = nI (dab (nI l) c) := by
  have hd := dab_le hl hc
  have e : (nI l - c).toInt = (l : Int) - c.toInt := by
    rw [Int32.toInt_sub, nI_toInt (by omega), Int.bmod_def]
    split <;> omega
  apply Int32.toInt_inj.mp
  rw [nI_toInt (by omega)]
  unfold dab
  rw [nI_toInt (by omega)]
  have e0 : (0 : Int32).toInt = 0 := by decide
  by_cases h : 0 ≤ nI l - c
  · rw [if_pos h, e]
    have := Int32.le_iff_toInt_le.mp h
    omega
  · rw [if_neg h, Int32.toInt_sub, e, e0, Int.bmod_def]
    have : ¬ (0 : Int32).toInt ≤ (nI l - c).toInt := fun q => h (Int32.le_iff_toInt_le.mpr q)
    split <;> omega
theorem mabs {l : Nat} {c : Int32} (hl : l ≤ 65) (hc : -99999 ≤ c.toInt ∧ c.toInt ≤ 99999) : (if 0 ≤ lg_cmp (c.toInt64 - (nI l).toInt64) 0 then (c.toInt64 - (nI l).toInt64) else -(c.toInt64 - (nI l).toInt64)) = lN (dab (nI l) c) := by
  have hd := dab_le hl hc
  have e : (c.toInt64 - (nI l).toInt64).toInt = c.toInt - (l : Int) := by
    rw [Int64.toInt_sub, Int32.toInt_toInt64, Int32.toInt_toInt64, nI_toInt (by omega), Int.bmod_def]
    split <;> omega
  apply Int64.toInt_inj.mp
  rw [lN_toInt (by omega)]
  unfold dab
  rw [nI_toInt (by omega)]
  have e0 : (0 : Int64).toInt = 0 := by decide
  by_cases h : (c.toInt64 - (nI l).toInt64) < 0
  · rw [if_neg (fun q => by rw [lg_pos] at q; exact q h), Int64.toInt_neg, e, Int.bmod_def]
    have := Int64.lt_iff_toInt_lt.mp h
    split <;> omega
  · rw [if_pos (by rw [lg_pos]; exact h), e]
    have : ¬ (c.toInt64 - (nI l).toInt64).toInt < (0 : Int64).toInt := fun q => h (Int64.lt_iff_toInt_lt.mpr q)
    omega
def DN (c : Nat → Int32) (T : Nat → Row) (v : Nat) : Nat → Nat
  | 0 => 0
  | k + 1 => DN c T v k + (if c k = -1000000005 then 0 else dab (T k (ps v 4)) (c k))
theorem DN_le {c : Nat → Int32} {T : Nat → Row} (hc : ∀ k, k < 24 → okCell (c k)) (hT : ∀ k, k < 24 → ∃ l, l ≤ 65 ∧ T k (ps v 4) = nI l) : ∀ k, k ≤ 24 → DN c T v k ≤ 100100 * k := by
  intro k
  induction k with
  | zero => intro _; exact Nat.le_refl _
  | succ k ih =>
    intro hk
    have := ih (by omega)
    rw [DN]
    split
    · omega
    · rename_i h5
      obtain ⟨l, hl, e⟩ := hT k (by omega)
      rw [e]
      have := dab_le hl (okC (hc k (by omega)) h5)
      omega
/-- how far voice v is from the sheet, in the class -/
theorem cdiff_L (hfu : 200 < fu) (hs : s < 4) (hvn : v < n) (hk : ROK 9999 n σ) (h51 : σ 51 = optI (lastO X.1 0 N)) {σ1 : Row} (l1 : Lv n σ σ1) (l2 : σ1 51 = σ 51) {c : Nat → Int32} (hz : z ≤ 24) (hc : ∀ k, k < 24 → okCell (c k)) (hT : ∀ k, k < 24 → ∃ l, l ≤ 65 ∧ tenthsS (offT X N) n k σ (ps v 4) = nI l) : ∀ (f k : Nat) (M : Mem), k ≤ z → z - k < f → CM X N σ M → M (hf s 1) = nI z → (∀ k, k < 24 → M (500 + 24 * s + k) = c k) → ∃ M', Fr scr M M' ∧ f_X8_differences_16 fu f (nI v) s (nI (DN c (fun k => tenthsS (offT X N) n k σ) v k)) (nI k) (lay (70 * 1) 54 (tenthsS (offT X N) n k σ1) M) = some (nI (DN c (fun k => tenthsS (offT X N) n k σ) v z), M') := by
  have hn := hk.2.1
  intro f
  induction f with
  | zero => intro k _ _ h; omega
  | succ f ih =>
    intro k M hkz hf2 hM h1 h2
    have h1' : ∀ ρ, lay (70 * 1) 54 ρ M (hf s 1) = nI z := fun ρ => by rw [lay_out (by unfold hf; omega), h1]
    rw [f_X8_differences_16, h1']
    by_cases he : k = z
    · subst he
      rw [if_pos (nI_le (Nat.le_refl _) (by omega))]
      exact ⟨_, fr_lay1, rfl⟩
    · have hk24 : k < 24 := by omega
      have h2' : ∀ ρ, lay (70 * 1) 54 ρ M (500 + 24 * s + k) = c k := fun ρ => by rw [lay_out (by omega), h2 k hk24]
      rw [if_neg (nI_ge (by omega) (by omega)), cnum_ev (h1' _) hz (by omega), doI_some, h2']
      have L := l1.tenths (off := offT X N) k
      have hr := tenthsS_ROK (off := offT X N) k 9999 σ1 (by omega) (l1.rok hk)
      obtain ⟨M2, s1, e2⟩ := crun1 (k := 1) hfu hM (by decide) (show 9999 + k ≤ 20000 by omega) hr (by rw [tenthsS_o hn (by omega), l2, h51])
      rw [show (nI 1) = (1 : Int32) from rfl, tenthsS_snoc] at e2
      have f2 := fr_sc s1
      obtain ⟨M3, f3, e3⟩ := ih (k + 1) M2 (by omega) (by omega) (hM.fr f2) (by rw [s1 _ (by unfold hf; omega)]; exact h1) (fun k hk => by rw [s1 _ (by omega)]; exact h2 k hk)
      refine ⟨M3, fr_tr f2 f3, ?_⟩
      unfold f_X8_differences_60
      rw [DN] at e3
      by_cases h5 : c k = -1000000005
      · rw [bz_f (fun q => q.2 h5), if_pos rfl, e2, doV_some, seqM_eq, nI_1]
        rw [if_pos h5] at e3
        exact e3
      · rw [bz_t ⟨show k < z by omega, h5⟩, if_neg (by decide), inb_nI (show v < 5 by omega) (by decide), inb_nI hk24 (by decide), chk_t, chk_t, nI_clamp (show v < 2 ^ 31 by omega), nI_clamp (show k < 2 ^ 31 by omega), h2', lc_vget (show v < 5 by omega) (by decide), L.f hvn (by decide)]
        obtain ⟨l, hl, el⟩ := hT k hk24
        rw [if_neg h5] at e3
        have e4 : dab ((fun k => tenthsS (offT X N) n k σ) k (ps v 4)) (c k) = dab (nI l) (c k) := by rw [← el]
        rw [e4] at e3
        rw [el, cabs hl (okC (hc k hk24) h5), seqM_eq, nI_add, e2, doV_some, seqM_eq, nI_1]
        exact e3
theorem cdiff_ev (hfu : 200 < fu) (hs : s < 4) (hvn : v < n) (hk : ROK 9999 n σ) (h51 : σ 51 = optI (lastO X.1 0 N)) {c : Nat → Int32} (hz : z ≤ 24) (hc : ∀ k, k < 24 → okCell (c k)) (hT : ∀ k, k < 24 → ∃ l, l ≤ 65 ∧ tenthsS (offT X N) n k σ (ps v 4) = nI l) (hM : CM X N σ M) (h1 : M (hf s 1) = nI z) (h2 : ∀ k, k < 24 → M (500 + 24 * s + k) = c k) : ∃ M', Fr scr M M' ∧ f_X8_differences fu (nI v) s M = some (nI (DN c (fun k => tenthsS (offT X N) n k σ) v z), M') := by
  obtain ⟨σ1, l1, l2, e1⟩ := cthink (fu := fu) (by omega) hM hk
  obtain ⟨M2, f2, e2⟩ := cdiff_L hfu hs hvn hk h51 l1 (l2 0 (by decide)) hz hc hT fu 0 M (Nat.zero_le _) (by omega) hM h1 h2
  refine ⟨M2, f2, ?_⟩
  unfold f_X8_differences
  rw [e1, doV_some]
  exact e2
def minD (D : Nat → Nat) : Nat → Nat × Nat
  | 0 => (0, D 0)
  | i + 1 => if (minD D i).2 ≤ D (i + 1) then minD D i else (i + 1, D (i + 1))
theorem minD_ok {D : Nat → Nat} : ∀ i, (minD D i).1 ≤ i ∧ D (minD D i).1 = (minD D i).2 := by
  intro i
  induction i with
  | zero => exact ⟨Nat.le_refl _, rfl⟩
  | succ i ih =>
    rw [minD]
    split
    · exact ⟨by omega, ih.2⟩
    · exact ⟨Nat.le_refl _, rfl⟩
theorem cwhose_L (hfu : 200 < fu) (hs : s < 4) (hk : ROK 9999 n σ) (h51 : σ 51 = optI (lastO X.1 0 N)) {c : Nat → Int32} (hz : z ≤ 24) (hc : ∀ k, k < 24 → okCell (c k)) (hT : ∀ v, v < n → ∀ k, k < 24 → ∃ l, l ≤ 65 ∧ tenthsS (offT X N) n k σ (ps v 4) = nI l) {D : Nat → Nat} (hD : ∀ v, D v = DN c (fun k => tenthsS (offT X N) n k σ) v z) (hD2 : ∀ v, v < n → D v < 2 ^ 30) : ∀ (f i : Nat) (M : Mem), 1 ≤ i → i ≤ n → n - i < f → CM X N σ M → M (hf s 1) = nI z → (∀ k, k < 24 → M (500 + 24 * s + k) = c k) → ∃ M', Fr scr M M' ∧ f_X8_whose_63 fu f x2 s (nI (minD D (i - 1)).1) (nI (minD D (i - 1)).2) (nI i) M = some (if x2 = 0 then nI (minD D (n - 1)).1 else nI (minD D (n - 1)).2, M') := by
  have hn := hk.2.1
  intro f
  induction f with
  | zero => intro i _ _ _ h; omega
  | succ f ih =>
    intro i M hi1 hin hf2 hM h1 h2
    rw [f_X8_whose_63, hM.e1 hk]
    by_cases he : i = n
    · subst he
      rw [if_pos (nI_le (Nat.le_refl _) (by omega))]
      exact ⟨M, fr_nil, some_ite⟩
    · rw [if_neg (nI_ge (by omega) (by omega))]
      obtain ⟨M1, f1, e1⟩ := cdiff_ev (fu := fu) (v := i) (s := s) hfu hs (by omega) hk h51 hz hc (hT i (by omega)) hM h1 h2
      rw [← hD] at e1
      rw [e1, doI_some]
      have ho := f1.on (S := sSH) (by decide)
      obtain ⟨M2, f2, e2⟩ := ih (i + 1) M1 (by omega) (by omega) (by omega) (hM.fr f1) (by rw [ho _ (onS_of 0 rfl (by unfold hf; omega) (by unfold hf; omega))]; exact h1) (fun k hk2 => by rw [ho _ (onS_of 1 rfl (by omega) (by omega))]; exact h2 k hk2)
      refine ⟨M2, fr_tr f1 f2, ?_⟩
      unfold f_X8_whose_99
      have b1 := minD_ok (D := D) (i - 1)
      have b2 := hD2 (minD D (i - 1)).1 (by omega)
      rw [b1.2] at b2
      have b3 := hD2 i (by omega)
      have e3 : minD D (i + 1 - 1) = if (minD D (i - 1)).2 ≤ D i then minD D (i - 1) else (i, D i) := by
        rw [show i + 1 - 1 = (i - 1) + 1 by omega, minD, show i - 1 + 1 = i by omega]
      rw [e3] at e2
      by_cases q : (minD D (i - 1)).2 ≤ D i
      · rw [if_pos (nI_le q (by omega)), seqM_eq, nI_1]
        rw [if_pos q] at e2
        exact e2
      · rw [if_neg (nI_ge (by omega) (by omega)), seqM_eq, nI_1]
        rw [if_neg q] at e2
        exact e2
def getL (M : Mem) (v : Nat) : Int64 := comb (M (3160 + 2 * v)) (M (3160 + 2 * v + 1))
theorem getL_s {y : Int64} : getL (updL M (3160 + 2 * v) y) v = y := by
  unfold getL updL
  rw [pk_us, pk_un (by omega), pk_us, comb_split]
theorem getL_o {y : Int64} {u : Nat} (h : u ≠ v) : getL (updL M (3160 + 2 * v) y) u = getL M u := by
  unfold getL updL
  rw [pk_un (by omega), pk_un (by omega), pk_un (by omega), pk_un (by omega)]
theorem updL_fr {y : Int64} (hv : v < 5) : Fr [(3160, 3170)] M (updL M (3160 + 2 * v) y) := fun j hj => by
  have := hj (3160, 3170) List.mem_cons_self
  simp only at this
  unfold updL
  rw [pk_un (by omega), pk_un (by omega)]
theorem lay_updL {y : Int64} (hv : v < 5) : updL (lay 4000 51 ρ M) (3160 + 2 * v) y = lay 4000 51 ρ (updL M (3160 + 2 * v) y) := by
  unfold updL
  rw [lay_updO (by omega), lay_updO (by omega)]
theorem lay_getL (hv : v < 5) : getL (lay 4000 51 ρ M) v = getL M v := by
  unfold getL
  rw [lay_out (by omega), lay_out (by omega)]
theorem mw45 (hn : n ≤ 5) : ∀ (f i : Nat) (M : Mem), i ≤ n → n - i < f → (∀ u, u < i → getL M u = lN 0) → ∃ M2, Fr [(3160, 3170)] M M2 ∧ (∀ u, u < n → getL M2 u = lN 0) ∧ f_X9_whose_45 fu f x1 x2 (nI n) (nI i) (lay 4000 51 ρ M) = f_X9_whose_68 fu fu x1 x2 (nI n) 0 (lay 4000 51 ρ M2) := by
  intro f
  induction f with
  | zero => intro i _ _ h; omega
  | succ f ih =>
    intro i M hi hf2 hM
    rw [f_X9_whose_45]
    by_cases he : i = n
    · subst he
      rw [if_pos (nI_le (Nat.le_refl _) (by omega))]
      exact ⟨M, fr_nil, hM, rfl⟩
    · have hi5 : i < 5 := by omega
      rw [if_neg (nI_ge (by omega) (by omega)), inb_nI hi5 (by decide), chk_t, nI_clamp (by omega), lay_updL hi5, seqM_eq, seqM_eq, nI_1]
      obtain ⟨M2, f2, g2, e2⟩ := ih (i + 1) (updL M (3160 + 2 * i) 0) (by omega) (by omega) (fun u hu => by
        by_cases e : u = i
        · subst e; rw [getL_s]; rfl
        · rw [getL_o e]; exact hM u (by omega))
      exact ⟨M2, fr_tr (updL_fr hi5) f2, g2, e2⟩
theorem mw96 {k68 : Int32 → Int32 → Int32 → Int32 → Mem → Option (Int32 × Mem)} {D D' : Nat → Nat} {c : Int32} {T : Nat → Nat} (hn : n ≤ 5) (hT : ∀ v, v < n → ρ (ps v 4) = nI (T v) ∧ T v ≤ 65) (hc : okCell c) (hD : ∀ v, v < n → D' v = D v + (if c = -1000000005 then 0 else dab (nI (T v)) c)) : ∀ (f i : Nat) (M : Mem), i ≤ n → n - i < f → (∀ u, u < n → getL M u = lN (if u < i then D' u else D u)) → ∃ M2, Fr [(3160, 3170)] M M2 ∧ (∀ u, u < n → getL M2 u = lN (D' u)) ∧ f_X9_whose_96 fu k68 f x1 x2 (nI n) (nI k) c (nI i) (lay 4000 51 ρ M) = doV (f_X9_tenth fu (lay 4000 51 ρ M2)) (fun m_2 => k68 x1 x2 (nI n) (nI (k + 1)) m_2) := by
  intro f
  induction f with
  | zero => intro i _ _ h; omega
  | succ f ih =>
    intro i M hi hf2 hM
    rw [f_X9_whose_96]
    by_cases he : i = n
    · subst he
      rw [if_pos (nI_le (Nat.le_refl _) (by omega))]
      refine ⟨M, fr_nil, fun u hu => by rw [hM u hu, if_pos hu], ?_⟩
      simp only [seqM_eq, nI_1]
    · have hi5 : i < 5 := by omega
      have hin : i < n := by omega
      obtain ⟨t1, t2⟩ := hT i hin
      have hg : comb (lay 4000 51 ρ M (3160 + 2 * i)) (lay 4000 51 ρ M (3160 + 2 * i + 1)) = lN (D i) := by
        have := hM i hin
        rw [if_neg (by omega)] at this
        rw [← this]
        exact lay_getL hi5
      obtain ⟨M2, f2, g2, e2⟩ := ih (i + 1) (updL M (3160 + 2 * i) (lN (D' i))) (by omega) (by omega) (fun u hu => by
        by_cases e : u = i
        · subst e; rw [getL_s, if_pos (by omega)]
        · rw [getL_o e, hM u hu]
          by_cases q : u < i
          · rw [if_pos q, if_pos (by omega)]
          · rw [if_neg q, if_neg (by omega)])
      refine ⟨M2, fr_tr (updL_fr hi5) f2, g2, ?_⟩
      unfold f_X9_whose_150
      rw [if_neg (nI_ge hin (by omega)), of_4 hi5, doI_some, seqM_eq, t1, inb_nI hi5 (by decide), chk_t, nI_clamp (by omega)]
      simp only [chk_t, seqM_eq, nI_1, hg]
      have hDi := hD i hin
      by_cases h5 : c = -1000000005
      · rw [if_pos h5] at hDi
        rw [if_pos h5, show lN (D i) + 0 = lN (D' i) by rw [hDi]; exact lN_add (D i) 0, lay_updL hi5]
        exact e2
      · rw [if_neg h5] at hDi
        have ma := mabs t2 (okC hc h5)
        rw [if_neg h5]
        by_cases h6 : 0 ≤ lg_cmp (c.toInt64 - (nI (T i)).toInt64) 0
        · rw [if_pos h6] at ma ⊢
          rw [ma, lN_add, ← hDi, lay_updL hi5]
          exact e2
        · rw [if_neg h6] at ma ⊢
          rw [ma, lN_add, ← hDi, lay_updL hi5]
          exact e2
theorem mw178 {D : Nat → Nat} (hn : n ≤ 5) (hD2 : ∀ v, v < n → D v < 2 ^ 30) (hM : ∀ u, u < n → getL M u = lN (D u)) : ∀ (f i : Nat), 1 ≤ i → (i ≤ n ∨ (n = 0 ∧ i = 1)) → n - i < f → f_X9_whose_178 fu f x2 (nI n) (nI (minD D (i - 1)).1) (nI i) M = some (if n = 0 then -1000000005 else if x2 = 0 then nI (minD D (n - 1)).1 else nI (minD D (n - 1)).2, M) := by
  intro f
  induction f with
  | zero => intro i _ _ h; omega
  | succ f ih =>
    intro i hi1 hin hf2
    rw [f_X9_whose_178]
    by_cases hn0 : n = 0
    · subst hn0
      rw [if_pos (nI_le (by omega) (by omega)), if_pos rfl, if_pos (show nI 0 = (0 : Int32) from rfl)]
    · have b1 := minD_ok (D := D) (i - 1)
      have hx : (minD D (i - 1)).1 < n := by omega
      have i5 := inb_nI (show (minD D (i - 1)).1 < 5 by omega) (show 5 < 2 ^ 31 by decide)
      have c5 := nI_clamp (show (minD D (i - 1)).1 < 2 ^ 31 by omega)
      have gx := hM _ hx
      unfold getL at gx
      rw [b1.2] at gx
      have b2 := hD2 _ hx
      rw [b1.2] at b2
      by_cases he : i = n
      · subst he
        have e0 : ¬ nI i = 0 := by rw [show (0 : Int32) = nI 0 from rfl, nI_eqP (by omega) (by decide)]; exact hn0
        rw [if_pos (nI_le (Nat.le_refl _) (by omega)), if_neg e0, if_neg hn0, i5, chk_t, c5, gx, lN_i]
        exact some_ite
      · have hlt : i < n := by omega
        have gi := hM i hlt
        unfold getL at gi
        have b3 := hD2 i hlt
        unfold f_X9_whose_209
        rw [if_neg (nI_ge hlt (by omega)), inb_nI (show i < 5 by omega) (by decide), chk_t, i5, chk_t, c5, nI_clamp (show i < 2 ^ 31 by omega), gx, gi]
        have ih' := ih (i + 1) (by omega) (Or.inl (by omega)) (by omega)
        have e3 : minD D (i + 1 - 1) = if (minD D (i - 1)).2 ≤ D i then minD D (i - 1) else (i, D i) := by
          rw [show i + 1 - 1 = (i - 1) + 1 by omega, minD, show i - 1 + 1 = i by omega]
        rw [e3] at ih'
        by_cases q : (minD D (i - 1)).2 ≤ D i
        · rw [if_pos (by rw [lg_pos, lN_lt (by omega) (by omega)]; omega), seqM_eq, nI_1]
          rw [if_pos q] at ih'
          exact ih'
        · rw [if_neg (by rw [lg_pos, lN_lt (by omega) (by omega)]; omega), seqM_eq, nI_1]
          rw [if_neg q] at ih'
          exact ih'
theorem mw68 (hfu : 200 < fu) (hs : s < 4) (hk : ROK 9999 n σ) (h15 : σ 15 = nI N) (hl : Lv n σ τ) {c : Nat → Int32} (hz : z ≤ 24) (hc : ∀ k, k < 24 → okCell (c k)) (hT : ∀ v, v < n → ∀ k, k < 24 → ∃ l, l ≤ 65 ∧ tenthsS (offT X N) n k σ (ps v 4) = nI l) {D : Nat → Nat} (hD : ∀ v, D v = DN c (fun k => tenthsS (offT X N) n k σ) v z) (hD2 : ∀ v, v < n → D v < 2 ^ 30) : ∀ (f k : Nat) (M : Mem), k ≤ z → z - k < f → MM X N τ M → M (3820 + s) = nI z → (∀ k, k < 24 → M (3830 + (24 * s + k)) = c k) → (∀ u, u < n → getL M u = lN (DN c (fun k => tenthsS (offT X N) n k σ) u k)) → ∃ M', Fr scr M M' ∧ f_X9_whose_68 fu f (nI s) x2 (nI n) (nI k) (lay 4000 51 (tenthsS (offT X N) n k τ) M) = some (if n = 0 then -1000000005 else if x2 = 0 then nI (minD D (n - 1)).1 else nI (minD D (n - 1)).2, lay 4000 51 τ M') := by
  have hn := hk.2.1
  intro f
  induction f with
  | zero => intro k _ _ h; omega
  | succ f ih =>
    intro k M hkz hf2 hM h1 h2 h3
    rw [f_X9_whose_68, inb_nI hs (by decide), chk_t, nI_clamp (by omega), lay_out (by omega), h1]
    by_cases he : k = z
    · subst he
      rw [if_pos (nI_le (Nat.le_refl _) (by omega)), hM.back (by omega), doV_some]
      refine ⟨M, fr_nil, ?_⟩
      have := mw178 (fu := fu) (x2 := x2) (n := n) (D := D) (M := lay 4000 51 τ M) hn hD2 (fun u hu => by rw [lay_getL (by omega), h3 u hu, hD]) fu 1 (Nat.le_refl _) (by omega) (by omega)
      exact this
    · have hk24 : k < 24 := by omega
      rw [if_neg (nI_ge (by omega) (by omega)), ix24, inb_nI (show 24 * s + k < 96 by omega) (by decide), chk_t, nI_clamp (by omega), lay_out (by omega), h2 k hk24, seqM_eq]
      have L := hl.tenths (off := offT X N) k
      obtain ⟨M2, f2, g2, e2⟩ := mw96 (fu := fu) (k68 := f_X9_whose_68 fu f) (x1 := nI s) (x2 := x2) (k := k) (ρ := tenthsS (offT X N) n k τ) (c := c k) (D := fun u => DN c (fun k => tenthsS (offT X N) n k σ) u k) (D' := fun u => DN c (fun k => tenthsS (offT X N) n k σ) u (k + 1)) (T := fun v => (tenthsS (offT X N) n k σ (ps v 4)).toInt.toNat) hn (fun v hv => by
        obtain ⟨l, hl65, el⟩ := hT v hv k hk24
        rw [L.f hv (by decide), el, nI_toInt (by omega)]
        exact ⟨by congr 1, by omega⟩) (hc k hk24) (fun v hv => by
        obtain ⟨l, hl65, el⟩ := hT v hv k hk24
        rw [DN]
        congr 1
        rw [el, nI_toInt (by omega)]
        rfl) fu 0 M (Nat.zero_le _) (by omega) (fun u hu => by rw [if_neg (by omega)]; exact h3 u hu)
      have hM2 : MM X N τ M2 := hM.fr f2 (by decide) (by decide)
      have hr := tenthsS_ROK (off := offT X N) k 9999 τ (by omega) (hl.rok hk)
      obtain ⟨M3, s3, e3, -⟩ := mtenth_ok (fu := fu) (m := M2) (by omega) (show 9999 + k < 90000 by omega) hr (offM_ev hM2.1 (by omega) hM2.2.1 hM2.2.2.2) (by rw [tenthsS_o hn (by omega), hl.l (by decide)]; exact h15)
      rw [tenthsS_snoc'] at e3
      have o2 : ∀ q, q < 3160 ∨ 3170 ≤ q → M2 q = M q := fun q hq => f2 q (fun p hp => by
        simp only [List.mem_cons, List.not_mem_nil, or_false] at hp
        subst hp
        exact hq)
      obtain ⟨M4, f4, e4⟩ := ih (k + 1) M3 (by omega) (by omega) (hM2.sm s3) (by rw [s3 _ (by omega) (by omega), o2 _ (by omega)]; exact h1) (fun j hj => by rw [s3 _ (by omega) (by omega), o2 _ (by omega)]; exact h2 j hj) (fun u hu => by
        have : getL M3 u = getL M2 u := by
          unfold getL
          rw [s3 _ (by omega) (by omega), s3 _ (by omega) (by omega)]
        rw [this]
        exact g2 u hu)
      refine ⟨M4, fr_tr (f2.inc (by decide)) (fr_tr (fr_sm s3) f4), ?_⟩
      rw [show (0 : Int32) = nI 0 from rfl, e2, e3, doV_some]
      exact e4
theorem op_whose (hfu : 200 < fu) (hI : Inv m) : Op (f_X8_whose fu x1 x2) (f_X9_whose fu x1 x2) m := by
  have hI0 := hI
  obtain ⟨n, N, σ, τ, X, h1, h2, h3, h4, h5, h6, h7, h8, h9⟩ := hI
  have hk := h1.2.2.2.1
  have hn := hk.2.1
  by_cases hA : inR x1 0 3
  · obtain ⟨s, -, hs, rfl⟩ := inR_nI (a := 0) (b := 3) (by decide) (by decide) hA
    obtain ⟨z, hS⟩ := h6.sh (s := s) (by omega)
    have hz := hS.size
    have i4 := inb_nI (show s < 4 by omega) (show 4 < 2 ^ 31 by decide)
    have c4 := nI_clamp (show s < 2 ^ 31 by omega)
    by_cases hE : inR x2 0 1
    · by_cases hB : m (hf s 0) = -1
      · refine op_pure hI0 (-1000000011) ?_ ?_
        · unfold f_X8_whose
          simp only [csheet_ev, bz_t hA, doI_some, doV_some, seqM_eq, chk_t, show ¬ (1 : Int32) = 0 by decide, if_false, within_ev, bz_t hE, i4, c4, cmiss_ev, bz_t hB]
        · unfold f_X9_whose
          simp only [msheet_ev, bz_t hA, doI_some, doV_some, seqM_eq, chk_t, show ¬ (1 : Int32) = 0 by decide, if_false, in_ev, bz_t hE, i4, c4, hS.pos, hB, not_true_eq_false]
      · have hT : ∀ v, v < n → ∀ k, k < 24 → ∃ l, l ≤ 65 ∧ tenthsS (offT X N) n k σ (ps v 4) = nI l := fun v hv k hk2 => by
          obtain ⟨-, -, -, -, a4, -⟩ := (tenthsS_ROK (off := offT X N) k 9999 σ (by omega) hk).2.2.1 v hv
          exact a4
        have hD2 : ∀ v, v < n → DN (fun k => m (500 + 24 * s + k)) (fun k => tenthsS (offT X N) n k σ) v z < 2 ^ 30 := fun v hv => by
          have := DN_le (v := v) (c := fun k => m (500 + 24 * s + k)) (T := fun k => tenthsS (offT X N) n k σ) hS.ok (hT v hv) z hz
          omega
        have hC0 : CM X N σ m := ⟨h3.1, h3.2.1, h1.1, h3.2.2.1⟩
        have hX : ∃ m1, Fr scr m m1 ∧ f_X8_whose fu (nI s) x2 m = some (if n = 0 then -1000000005 else if x2 = 0 then nI (minD (fun v => DN (fun k => m (500 + 24 * s + k)) (fun k => tenthsS (offT X N) n k σ) v z) (n - 1)).1 else nI (minD (fun v => DN (fun k => m (500 + 24 * s + k)) (fun k => tenthsS (offT X N) n k σ) v z) (n - 1)).2, m1) := by
          unfold f_X8_whose
          simp only [csheet_ev, bz_t hA, doI_some, doV_some, seqM_eq, chk_t, show ¬ (1 : Int32) = 0 by decide, if_false, within_ev, bz_t hE, i4, c4, cmiss_ev, bz_f hB, if_true, hC0.e1 hk]
          by_cases hn0 : n = 0
          · subst hn0
            exact ⟨m, fr_nil, by rw [if_pos (show nI 0 = (0 : Int32) from rfl), if_pos rfl]⟩
          · have e0 : ¬ nI n = 0 := by rw [show (0 : Int32) = nI 0 from rfl, nI_eqP (by omega) (by decide)]; exact hn0
            rw [if_neg e0, if_neg hn0]
            obtain ⟨M1, f1, e1⟩ := cdiff_ev (fu := fu) (v := 0) (s := s) (c := fun k => m (500 + 24 * s + k)) hfu (by omega) (by omega) hk (h2.2 0 (by decide)) hz hS.ok (hT 0 (by omega)) hC0 hS.csz (fun _ _ => rfl)
            have ho := f1.on (S := sSH) (by decide)
            obtain ⟨M2, f2, e2⟩ := cwhose_L (fu := fu) (s := s) (x2 := x2) (c := fun k => m (500 + 24 * s + k)) (D := fun v => DN (fun k => m (500 + 24 * s + k)) (fun k => tenthsS (offT X N) n k σ) v z) hfu (by omega) hk (h2.2 0 (by decide)) hz hS.ok hT (fun _ => rfl) hD2 fu 1 M1 (Nat.le_refl _) (by omega) (by omega) (hC0.fr f1) (by rw [ho _ (onS_of 0 rfl (by unfold hf; omega) (by unfold hf; omega))]; exact hS.csz) (fun k hk2 => ho _ (onS_of 1 rfl (by omega) (by omega)))
            refine ⟨M2, fr_tr f1 f2, ?_⟩
            rw [show (0 : Int32) = nI 0 from rfl, e1, doI_some]
            exact e2
        obtain ⟨m1, f1, e1⟩ := hX
        have r1 : RW n σ τ m1 := h1.on (f1.on (by decide))
        have t1 : TXI X N m1 := h3.on (f1.on (by decide))
        have ho := f1.on (S := sSH) (by decide)
        obtain ⟨Ma, fa, mm, ea⟩ := mthink (fu := fu) (τ := τ) (M := m1) (by omega) t1.1 t1.2.1 t1.2.2.2
        obtain ⟨Mb, fb, gb, eb⟩ := mw45 (fu := fu) (x1 := nI s) (x2 := x2) (ρ := τ) hn fu 0 Ma (Nat.zero_le _) (by omega) (fun u hu => absurd hu (by omega))
        have fab : Fr scr m1 Mb := fr_tr fa (fb.inc (by decide))
        have oab := fab.on (S := sSH) (by decide)
        obtain ⟨Mc, fc, ec⟩ := mw68 (fu := fu) (s := s) (x2 := x2) (c := fun k => m (500 + 24 * s + k)) (D := fun v => DN (fun k => m (500 + 24 * s + k)) (fun k => tenthsS (offT X N) n k σ) v z) hfu (by omega) hk h2.1 h1.2.2.1 hz hS.ok hT (fun _ => rfl) hD2 fu 0 Mb (Nat.zero_le _) (by omega) (mm.fr fb (by decide) (by decide)) (by rw [oab _ (onS_of 3 rfl (by omega) (by omega)), ho _ (onS_of 3 rfl (by omega) (by omega))]; exact hS.msz) (fun k hk2 => by rw [oab _ (onS_of 4 rfl (by omega) (by omega)), ho _ (onS_of 4 rfl (by omega) (by omega))]; exact hS.cell k hk2) (fun u hu => gb u hu)
        have hl := r1.layM
        refine ⟨_, m1, lay 4000 51 τ Mc, e1, ?_, inv_scr (inv_scr hI0 f1) ?_⟩
        · rw [hl]
          have e10 : (0 ≤ lay 4000 51 τ m1 (3810 + s)) = ¬ m (hf s 0) = -1 := by
            rw [lay_out (by omega), ho _ (onS_of 2 rfl (by omega) (by omega))]
            exact hS.pos
          have t1' : τ 1 = nI n := (h1.2.2.1.l (by decide)).trans hk.1
          unfold f_X9_whose
          simp only [msheet_ev, bz_t hA, doI_some, doV_some, seqM_eq, chk_t, show ¬ (1 : Int32) = 0 by decide, if_false, in_ev, bz_t hE, i4, c4, e10, hB, not_false_eq_true, if_true, ea, Nat.reduceMul, Nat.reduceAdd, Int32.reduceToNatClampNeg, lm_1, t1']
          exact eb.trans ec
        · have := fr_lay2 (c := 4000) (n := 51) (σ := τ) (fr_tr fab fc)
          rw [← hl] at this
          exact this
    · refine op_pure hI0 (-1000000001) ?_ ?_
      · unfold f_X8_whose
        simp only [csheet_ev, bz_t hA, doI_some, doV_some, seqM_eq, chk_t, show ¬ (1 : Int32) = 0 by decide, if_false, within_ev, bz_f hE, if_true]
      · unfold f_X9_whose
        simp only [msheet_ev, bz_t hA, doI_some, doV_some, seqM_eq, chk_t, show ¬ (1 : Int32) = 0 by decide, if_false, in_ev, bz_f hE, if_true]
  · refine op_pure hI0 (-1000000001) ?_ ?_
    · unfold f_X8_whose
      simp only [csheet_ev, bz_f hA, doI_some, doV_some, seqM_eq, chk_t, if_true]
    · unfold f_X9_whose
      simp only [msheet_ev, bz_f hA, doI_some, doV_some, seqM_eq, chk_t, if_true]
end WHOSE
