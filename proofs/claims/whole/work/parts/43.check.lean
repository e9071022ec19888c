/-! PURE: check -/
section CHECK
variable {fu n N v k B s c w : Nat} {σ τ ρ : Row} {m M M' : Mem} {X : TxS} {x x1 x2 x3 : Int32}
def chkN (a b t : Nat → Int32) (w c : Nat) : Nat → Nat → Int32
  | _, 0 => if w ≤ 2 * c then 0 else nI (1 + 2 * c)
  | i, r + 1 => if 2 * i < w ∧ t (2 * i) = a i then (if 2 * i + 1 < w ∧ t (2 * i + 1) = b i then chkN a b t w c (i + 1) r else nI (2 + 2 * i)) else nI (1 + 2 * i)
theorem waiting_ev {k w : Nat} (hk : k < 60) (hw : w ≤ 60) : f_X8_isWaiting fu (nI k) (nI w) x M = some (bz (k < w ∧ M (400 + k) = x), M) := by
  unfold f_X8_isWaiting
  have hR : inR (nI k) 0 59 := inR_of (a := 0) (b := 59) (by decide) (by omega) (by omega)
  rw [within_ev, doI_some, bz_t hR, if_neg (by decide)]
  by_cases h : k < w
  · rw [if_neg (nI_ge h (by omega)), inb_nI hk (by decide), chk_t, nI_clamp (by omega)]
    by_cases d : M (400 + k) = x
    · rw [if_pos d, bz_t ⟨h, d⟩]
    · rw [if_neg d, bz_f (fun q => d q.2)]
  · rw [if_pos (nI_le (by omega) (by omega)), bz_f (fun q => h q.1)]
theorem two_nI {i : Nat} : 2 * nI i = nI (2 * i) := by rw [show (2 : Int32) = nI 2 from rfl, pk_mul]
theorem one_nI {i : Nat} : 1 + nI i = nI (1 + i) := by rw [show (1 : Int32) = nI 1 from rfl, nI_add]
theorem two_nI' {i : Nat} : 2 + nI i = nI (2 + i) := by rw [show (2 : Int32) = nI 2 from rfl, nI_add]
theorem cchk_L (hf : 200 < fu) {ι ι1 : Row} {t : Nat → Int32} (hw : w ≤ 60) (hc : c ≤ 30) (hk : ROK 9999 n ι) (h51 : ι 51 = optI (lastO X.1 0 N)) (l1 : Lv n ι ι1) (l2 : ι1 51 = ι 51) : ∀ (f i : Nat) (M : Mem), i ≤ c → c - i < f → CM X N σ M → (∀ k, k < 60 → M (400 + k) = t k) → ∃ M', Fr scr M M' ∧ f_X8_check_64 fu f (nI w) (nI c) (nI i) (lay (70 * 1) 54 (tenthsS (offT X N) n i ι1) M) = some (chkN (fun i => tenthsS (offT X N) n (i + 1) ι 7) (fun i => tenthsS (offT X N) n (i + 1) ι 5) t w c i (c - i), M') := by
  have hn := hk.2.1
  intro f
  induction f with
  | zero => intro i _ _ h; omega
  | succ f ih =>
    intro i M hi hf2 hM ht
    rw [f_X8_check_64]
    by_cases he : i = c
    · subst he
      rw [if_pos (nI_le (Nat.le_refl _) (by omega)), Nat.sub_self, chkN, two_nI, one_nI]
      refine ⟨_, fr_lay1 (ρ := tenthsS (offT X N) n i ι1), ?_⟩
      by_cases q : w ≤ 2 * i
      · rw [if_pos (nI_le q (by omega)), if_pos q]
      · rw [if_neg (nI_ge (by omega) (by omega)), if_neg q]
    · rw [if_neg (nI_ge (by omega) (by omega))]
      have hr := tenthsS_ROK (off := offT X N) i 9999 ι1 (by omega) (l1.rok hk)
      obtain ⟨M2, s1, e2⟩ := crun1 (k := 1) hf hM (by decide) (show 9999 + i ≤ 20000 by omega) hr (by rw [tenthsS_o hn (by omega), l2, h51])
      rw [show (nI 1) = (1 : Int32) from rfl, tenthsS_snoc] at e2
      have L := l1.tenths (off := offT X N) (i + 1)
      have hM2 := hM.fr (fr_sc s1)
      have ht2 : ∀ k, k < 60 → M2 (400 + k) = t k := fun k hk2 => by rw [s1 _ (by omega)]; exact ht k hk2
      have ht3 : ∀ ρ k, k < 60 → lay (70 * 1) 54 ρ M2 (400 + k) = t k := fun ρ k hk2 => by rw [lay_out (by omega)]; exact ht2 k hk2
      have fr := fr_tr (fr_sc s1) (fr_lay1 (ρ := tenthsS (offT X N) n (i + 1) ι1))
      rw [e2, doV_some, two_nI, lc_get (by decide), L.l (by decide), waiting_ev (by omega) hw, doI_some, ht3 _ _ (by omega), show c - i = (c - (i + 1)) + 1 by omega, chkN, lc_get (by decide), L.l (by decide), nI_1, nI_1, one_nI, two_nI']
      by_cases q1 : 2 * i < w ∧ t (2 * i) = tenthsS (offT X N) n (i + 1) ι 7
      · rw [bz_t q1, if_neg (by decide), if_pos q1, waiting_ev (by omega) hw, doI_some, ht3 _ _ (by omega)]
        by_cases q2 : 2 * i + 1 < w ∧ t (2 * i + 1) = tenthsS (offT X N) n (i + 1) ι 5
        · rw [bz_t q2, if_neg (by decide), if_pos q2, seqM_eq]
          obtain ⟨M3, f3, e3⟩ := ih (i + 1) M2 (by omega) (by omega) hM2 ht2
          exact ⟨M3, fr_tr (fr_sc s1) f3, e3⟩
        · rw [bz_f q2, if_pos rfl, if_neg q2]
          exact ⟨_, fr, rfl⟩
      · rw [bz_f q1, if_pos rfl, if_neg q1]
        exact ⟨_, fr, rfl⟩
theorem m183 {y : Nat} (hw : w ≤ 60) (hy : y ≤ 61) (hc : c ≤ 30) (h : ¬ y = 2 * c) : f_X9_check_183 fu (nI w) (nI (2 * c)) (nI y) M = doV (f_X9_copyAll fu 2 0 M) (fun m_2 => some (nI (1 + y), m_2)) := by
  unfold f_X9_check_183
  have e1 : ¬ nI y = nI (2 * c) := by rw [nI_eqP (by omega) (by omega)]; exact h
  simp only [one_nI, if_neg e1, ite_self]
theorem m183s {y : Nat} (hf : 1 < fu) {f : Nat} (hw : w ≤ 60) (hy : y ≤ 61) (hc : c ≤ 30) (h : ¬ y = 2 * c) {i : Nat} (hi : i ≤ 60) (h2 : ¬ y = 2 * i) : f_X9_check_80 fu (f + 1) (nI w) (nI (2 * c)) (nI y) (nI i) M = doV (f_X9_copyAll fu 2 0 M) (fun m_2 => some (nI (1 + y), m_2)) := by
  rw [f_X9_check_80, two_nI]
  have e2 : ¬ nI y = nI (2 * i) := by rw [nI_eqP (by omega) (by omega)]; exact h2
  rw [if_neg e2, m183 hw hy hc h, ite_self]
theorem mchk_L (hf : 200 < fu) {ι κ : Row} {t : Nat → Int32} (hw : w ≤ 60) (hc : c ≤ 30) (hk : ROK 9999 n ι) (h15 : ι 15 = nI N) (hl : Lv n ι κ) (hN : N ≤ 14) (hv : TxV X N) : ∀ (f i : Nat) (M : Mem), i ≤ c → c + 1 - i < f → 2 * i ≤ w → TxM 4000 X N M → (∀ k, k < 60 → M (8650 + k) = t k) → ∃ M' ρ, SM M M' ∧ f_X9_check_80 fu f (nI w) (nI (2 * c)) (nI (2 * i)) (nI i) (lay 4000 51 (tenthsS (offT X N) n i κ) M) = doV (f_X9_copyAll fu 2 0 (lay 4000 51 ρ M')) (fun m_2 => some (chkN (fun i => tenthsS (offT X N) n (i + 1) ι 7) (fun i => tenthsS (offT X N) n (i + 1) ι 5) t w c i (c - i), m_2)) := by
  have hn := hk.2.1
  intro f
  induction f with
  | zero => intro i _ _ h; omega
  | succ f ih =>
    intro i M hi hf2 hiw hM ht
    rw [f_X9_check_80, two_nI]
    by_cases he : i = c
    · subst he
      rw [if_pos (nI_le (Nat.le_refl _) (by omega)), Nat.sub_self, chkN]
      refine ⟨M, tenthsS (offT X N) n i κ, SM.refl, ?_⟩
      unfold f_X9_check_183
      rw [one_nI]
      by_cases q : w ≤ 2 * i
      · have qq : w = 2 * i := by omega
        rw [if_pos q, qq]
        simp only [if_true]
      · have e : ¬ nI (2 * i) = nI w := by rw [nI_eqP (by omega) (by omega)]; omega
        simp only [if_neg q, if_neg e]
    · rw [if_neg (nI_ge (by omega) (by omega)), if_pos rfl]
      have hr := tenthsS_ROK (off := offT X N) i 9999 κ (by omega) (hl.rok hk)
      obtain ⟨M2, s1, e2, -⟩ := mtenth_ok (fu := fu) (m := M) (by omega) (show 9999 + i < 90000 by omega) hr (offM_ev hN (by omega) hv hM) (by rw [tenthsS_o hn (by omega), hl.l (by decide)]; exact h15)
      rw [tenthsS_snoc'] at e2
      have L := hl.tenths (off := offT X N) (i + 1)
      have hM2 : TxM 4000 X N M2 := hM.fr hN hv (Fr.sm s1) (by decide)
      have ht2 : ∀ k, k < 60 → M2 (8650 + k) = t k := fun k hk2 => by rw [s1 _ (by omega) (by omega)]; exact ht k hk2
      have ht3 : ∀ ρ k, k < 60 → lay 4000 51 ρ M2 (8650 + k) = t k := fun ρ k hk2 => by rw [lay_out (by omega)]; exact ht2 k hk2
      obtain ⟨g, rfl⟩ : ∃ g, f = g + 1 := ⟨f - 1, by omega⟩
      rw [e2, doV_some, show c - i = (c - (i + 1)) + 1 by omega, chkN]
      unfold f_X9_check_130 f_X9_check_131 f_X9_check_173 f_X9_check_174
      have e21 : nI (2 * i) + 1 = nI (2 * i + 1) := nI_1 _
      have e22 : nI (2 * i + 1) + 1 = nI (2 * (i + 1)) := nI_1 _
      have ne1 : ¬ nI (2 * i) = nI (2 * i + 1) := by rw [nI_eqP (by omega) (by omega)]; omega
      simp only [seqM_eq, Int32.add_zero, two_nI, e21, if_neg ne1, nI_1]
      have fail1 : ∃ M' ρ, SM M M' ∧ f_X9_check_80 fu (g + 1) (nI w) (nI (2 * c)) (nI (2 * i)) (nI (i + 1)) (lay 4000 51 (tenthsS (offT X N) n (i + 1) κ) M2) = doV (f_X9_copyAll fu 2 0 (lay 4000 51 ρ M')) (fun m_2 => some (nI (1 + 2 * i), m_2)) := ⟨M2, _, s1, m183s (by omega) hw (by omega) hc (by omega) (by omega) (by omega)⟩
      by_cases a1 : 2 * i < w
      · rw [if_neg (nI_ge a1 (by omega)), inb_nI (show 2 * i < 60 by omega) (by decide), chk_t, nI_clamp (by omega), ht3 _ _ (by omega), show 4000 + 1500 * 0 + (7 : Int32).toNatClampNeg = 4007 by decide, lm_7, L.l (by decide)]
        by_cases a2 : t (2 * i) = tenthsS (offT X N) n (i + 1) ι 7
        · rw [if_pos a2, if_pos True.intro, if_pos (show 2 * i < w ∧ t (2 * i) = tenthsS (offT X N) n (i + 1) ι 7 from ⟨a1, a2⟩)]
          have fail2 : ∃ M' ρ, SM M M' ∧ f_X9_check_80 fu (g + 1) (nI w) (nI (2 * c)) (nI (2 * i + 1)) (nI (i + 1)) (lay 4000 51 (tenthsS (offT X N) n (i + 1) κ) M2) = doV (f_X9_copyAll fu 2 0 (lay 4000 51 ρ M')) (fun m_2 => some (nI (2 + 2 * i), m_2)) := ⟨M2, _, s1, by rw [m183s (by omega) hw (by omega) hc (by omega) (by omega) (by omega), show 1 + (2 * i + 1) = 2 + 2 * i by omega]⟩
          by_cases b1 : 2 * i + 1 < w
          · rw [if_neg (nI_ge b1 (by omega)), inb_nI (show 2 * i + 1 < 60 by omega) (by decide), chk_t, nI_clamp (by omega), ht3 _ _ (by omega), show 4000 + 1500 * 0 + (5 : Int32).toNatClampNeg = 4005 by decide, lm_5, L.l (by decide)]
            by_cases b2 : t (2 * i + 1) = tenthsS (offT X N) n (i + 1) ι 5
            · rw [if_pos b2, if_pos (show 2 * i + 1 < w ∧ t (2 * i + 1) = tenthsS (offT X N) n (i + 1) ι 5 from ⟨b1, b2⟩)]
              obtain ⟨M3, ρ, s3, e3⟩ := ih (i + 1) M2 (by omega) (by omega) (by omega) hM2 ht2
              exact ⟨M3, ρ, s1.trans s3, e3⟩
            · rw [if_neg b2, if_neg (show ¬ (2 * i + 1 < w ∧ t (2 * i + 1) = tenthsS (offT X N) n (i + 1) ι 5) from fun q => b2 q.2)]
              exact fail2
          · rw [if_pos (nI_le (by omega) (by omega)), if_neg (show ¬ (2 * i + 1 < w ∧ t (2 * i + 1) = tenthsS (offT X N) n (i + 1) ι 5) from fun q => b1 q.1)]
            exact fail2
        · rw [if_neg a2, if_neg (show ¬ (2 * i < w ∧ t (2 * i) = tenthsS (offT X N) n (i + 1) ι 7) from fun q => a2 q.2)]
          exact fail1
      · rw [if_pos (nI_le (by omega) (by omega)), if_neg (show ¬ (2 * i < w ∧ t (2 * i) = tenthsS (offT X N) n (i + 1) ι 7) from fun q => a1 q.1)]
        exact fail1
theorem inv_told0 (hI : Inv m) (hf : Fr (sWT ++ scr) m M) (h1 : M 271 = 0) (h2 : M 3012 = 0) : Inv M :=
  inv_wtg hI hf ⟨0, by decide, h1, h2, fun k hk => absurd hk (by omega)⟩
theorem op_check (hf : 1423 < fu) (hI : Inv m) : Op (f_X8_check fu x1) (f_X9_check fu x1) m := by
  have hI0 := hI
  obtain ⟨n, N, σ, τ, X, h1, h2, h3, ⟨i0, h4⟩, h5, h6, h7, ⟨w, hw, w1, w2, w3⟩, h9⟩ := hI
  have f0 : Fr [(271, 272)] m (upd m 271 0) := Fr.up
  have early : ∀ r, f_X8_check fu x1 m = some (r, upd m 271 0) → f_X9_check fu x1 (upd m 271 0) = some (r, upd (upd m 271 0) 3012 0) → Op (f_X8_check fu x1) (f_X9_check fu x1) m := fun r a b => by
    refine ⟨r, _, _, a, b, inv_told0 hI0 (fun j hj => ?_) (by rw [pk_un (by decide), pk_us]) pk_us⟩
    have p1 := hj (271, 272) (by decide)
    have p2 := hj (3012, 3013) (by decide)
    simp only at p1 p2
    rw [pk_un (by omega), pk_un (by omega)]
  have e3012 : (upd m 271 0) 3012 = nI w := by rw [pk_un (by decide), w2]
  by_cases hA : inR x1 1 30
  · rcases h4 with h4 | ⟨i1, n2, N2, ι, κ, a, b, z, c, d, e, f, g⟩
    · refine early (-1000000002) ?_ ?_
      · unfold f_X8_check
        simp only [w1, doI_some, doV_some, seqM_eq, chk_t, within_ev, bz_t hA, show ¬ (1 : Int32) = 0 by decide, if_false, pk_un (show (270 : Nat) ≠ 271 by decide), h4, if_true]
      · unfold f_X9_check
        simp only [e3012, doI_some, doV_some, seqM_eq, chk_t, in_ev, bz_t hA, show ¬ (1 : Int32) = 0 by decide, if_false, pk_un (show (3000 : Nat) ≠ 3012 by decide), pk_un (show (3000 : Nat) ≠ 271 by decide), i0, h4, if_true]
    · obtain ⟨k, k1, k5, rfl⟩ := inR_nI (a := 1) (b := 30) (by decide) (by decide) hA
      obtain ⟨T, hT, eT, hkT⟩ := c.re
      obtain ⟨g1, g2⟩ := min_eq hT (show k ≤ 100 by omega)
      have hc2 : min k (9999 - T) ≤ k := Nat.min_le_left _ _
      generalize min k (9999 - T) = cc at g1 g2 hc2
      have hN14 : N2 ≤ 14 := Nat.le_trans e h3.1
      have hv2 : TxV X N2 := fun t ht => h3.2.1 t (by omega)
      have hn2 := c.2.1
      -- the class
      obtain ⟨ι1, l1, l2, e1⟩ := become_row (fu := fu) (t0 := 1) (t1 := 2) (m := upd m 271 0) (σ := ι) (by decide) hn2 (by omega) (fun q hq => by rw [pk_un (by omega)]; exact a q hq) c.1
      have hCM : CM X N2 σ (upd m 271 0) := ⟨hN14, hv2, fun q hq => by rw [pk_un (by omega)]; exact h1.1 q hq, fun t ht => by
        obtain ⟨q1, q2, q3, q4⟩ := h3.2.2.1 t (by omega)
        have hz := (h3.2.1 t (by omega)).2.2.1
        exact ⟨by rw [pk_un (by unfold tf; omega)]; exact q1, by rw [pk_un (by unfold tf; omega)]; exact q2, by rw [pk_un (by unfold tf; omega)]; exact q3, fun i hi => by rw [pk_un (by omega)]; exact q4 i hi⟩⟩
      obtain ⟨m1, f1, e2⟩ := cchk_L (fu := fu) (t := fun k => m (400 + k)) (c := cc) (by omega) hw (by omega) c (f.2 0 (by decide)) l1 (l2 0 (by decide)) fu 0 (upd m 271 0) (Nat.zero_le _) (by omega) hCM (fun k hk2 => pk_un (by omega))
      have fm1 : Fr ([(271, 272)] ++ scr) m m1 := f0.trans f1
      have n1 : ∀ q, (130 ≤ q ∧ q < 271) ∨ (3012 ≤ q ∧ q < 3100) ∨ (8423 ≤ q) ∨ (4000 ≤ q ∧ q < 7000) ∨ q = 3000 → m1 q = m q := fun q hq => fm1 q (fun p hp => by
        have : ([(271, 272)] ++ scr).all (fun p => (Nat.ble p.2 130 || Nat.ble 271 p.1) && (Nat.ble p.2 3012 || Nat.ble 3100 p.1) && Nat.ble p.2 8423 && (Nat.ble p.2 4000 || Nat.ble 7000 p.1) && (Nat.ble p.2 3000 || Nat.ble 3001 p.1)) = true := by decide
        have := List.all_eq_true.mp this p hp
        simp only [Bool.or_eq_true, Bool.and_eq_true, Nat.ble_eq] at this
        omega)
      have c271 : m1 271 = 0 := by
        rw [f1 271 (fun p hp => by
          have : scr.all (fun p => (Nat.ble p.2 271 || Nat.ble 272 p.1)) = true := by decide
          have := List.all_eq_true.mp this p hp
          simp only [Bool.or_eq_true, Nat.ble_eq] at this
          omega), pk_us]
      -- the reference
      have A1 := copyAll_ev (fu := fu) (m := upd m1 3012 0) (a := 0) (b := 2) hf (by decide)
      generalize hMa : lay (4000 + 1500 * 2) 1423 (fun q => (upd m1 3012 0) (4000 + 1500 * 0 + q)) (upd m1 3012 0) = Ma at A1
      have A2 := copyAll_ev (fu := fu) (m := Ma) (a := 1) (b := 0) hf (by decide)
      generalize hMb : lay (4000 + 1500 * 0) 1423 (fun q => Ma (4000 + 1500 * 1 + q)) Ma = Mb at A2
      have va : ∀ q, q < 7000 ∨ 8423 ≤ q → Ma q = (upd m1 3012 0) q := fun q hq => by rw [← hMa, lay_out (by omega)]
      have va7 : ∀ q, q < 1423 → Ma (7000 + q) = m (4000 + q) := fun q hq => by
        rw [← hMa]
        have := @lay_in (4000 + 1500 * 2) 1423 q (fun q => (upd m1 3012 0) (4000 + 1500 * 0 + q)) (upd m1 3012 0) hq
        refine this.trans ?_
        show (upd m1 3012 0) (4000 + 1500 * 0 + q) = _
        rw [pk_un (by omega), n1 _ (by omega)]
      have vb : ∀ q, q < 4000 ∨ 5423 ≤ q → Mb q = Ma q := fun q hq => by rw [← hMb, lay_out (by omega)]
      have vb4 : ∀ q, q < 1423 → Mb (4000 + q) = m (5500 + q) := fun q hq => by
        rw [← hMb]
        have := @lay_in (4000 + 1500 * 0) 1423 q (fun q => Ma (4000 + 1500 * 1 + q)) Ma hq
        refine this.trans ?_
        show Ma (4000 + 1500 * 1 + q) = _
        rw [va _ (by omega), pk_un (by omega), n1 _ (by omega)]
      have lb : Mb = lay 4000 51 κ Mb := lay_of (fun q hq => by rw [vb4 q (by omega)]; exact b q hq)
      have hTx : TxM 4000 X N2 Mb := g.cp hN14 hv2 (fun q _ hq => vb4 q hq)
      have htold : ∀ k, k < 60 → Mb (8650 + k) = m (8650 + k) := fun k hk2 => by
        rw [vb _ (by omega), va _ (by omega), pk_un (by omega), n1 _ (by omega)]
      obtain ⟨M3, ρ, s3, e3⟩ := mchk_L (fu := fu) (t := fun k => m (8650 + k)) (w := w) (c := cc) (by omega) hw (by omega) c f.1 z hN14 hv2 fu 0 Mb (Nat.zero_le _) (by omega) (Nat.zero_le _) hTx htold
      have A3 := copyAll_ev (fu := fu) (m := lay 4000 51 ρ M3) (a := 2) (b := 0) hf (by decide)
      have eqR : ∀ i r, i + r ≤ 30 → chkN (fun i => tenthsS (offT X N2) n2 (i + 1) ι 7) (fun i => tenthsS (offT X N2) n2 (i + 1) ι 5) (fun k => m (8650 + k)) w cc i r = chkN (fun i => tenthsS (offT X N2) n2 (i + 1) ι 7) (fun i => tenthsS (offT X N2) n2 (i + 1) ι 5) (fun k => m (400 + k)) w cc i r := by
        intro i r
        induction r generalizing i with
        | zero => intro _; rfl
        | succ r ih =>
          intro hir
          rw [chkN, chkN, ih (i + 1) (by omega)]
          by_cases q1 : 2 * i < w
          · rw [w3 _ q1]
            by_cases q2 : 2 * i + 1 < w
            · rw [w3 _ q2]
            · have t1 : ∀ A : Prop, ¬ (2 * i + 1 < w ∧ A) := fun A q => q2 q.1
              rw [if_neg (t1 _), if_neg (t1 _)]
          · have t1 : ∀ A : Prop, ¬ (2 * i < w ∧ A) := fun A q => q1 q.1
            rw [if_neg (t1 _), if_neg (t1 _)]
      refine ⟨chkN (fun i => tenthsS (offT X N2) n2 (i + 1) ι 7) (fun i => tenthsS (offT X N2) n2 (i + 1) ι 5) (fun k => m (400 + k)) w cc 0 cc, m1, lay (4000 + 1500 * 0) 1423 (fun q => (lay 4000 51 ρ M3) (4000 + 1500 * 2 + q)) (lay 4000 51 ρ M3), ?_, ?_, inv_told0 hI0 (fun j hj => ?_) ?_ ?_⟩
      · have e270 : (upd m 271 0) 270 = 1 := by rw [pk_un (by decide), i1]
        have e2' : (upd m 271 0) (sf 2 2) = nI T := by
          rw [pk_un (by decide), ← eT]
          exact a 2 (by decide)
        unfold f_X8_check
        simp only [w1, doI_some, doV_some, seqM_eq, chk_t, within_ev, bz_t hA, show ¬ (1 : Int32) = 0 by decide, if_false, e270, e2', g1, e1]
        exact e2
      · have m1w : m1 3012 = nI w := by rw [n1 _ (by omega), w2]
        have m3000 : (upd m1 3012 0) 3000 = 1 := by rw [pk_un (by decide), n1 _ (by omega), i0, i1]
        have m4002 : Mb (4000 + 1500 * 0 + (2 : Int32).toNatClampNeg) = nI T := by
          rw [show 4000 + 1500 * 0 + (2 : Int32).toNatClampNeg = 4000 + 2 by decide, vb4 2 (by decide), b 2 (by decide), z.l (by decide), eT]
        unfold f_X9_check
        simp only [m1w, doI_some, doV_some, seqM_eq, chk_t, in_ev, bz_t hA, show ¬ (1 : Int32) = 0 by decide, if_false, m3000, A1, A2, m4002, mwithin_ev, g2, two_nI]
        have e4 := e3
        rw [A3, doV_some, show (2 * 0) = 0 from rfl, eqR 0 (cc - 0) (by omega)] at e4
        have : tenthsS (offT X N2) n2 0 κ = κ := rfl
        rw [this, ← lb] at e4
        exact e4
      · by_cases hj4 : 4000 ≤ j ∧ j < 5423
        · have hq : j - 4000 < 1423 := by omega
          have := @lay_in (4000 + 1500 * 0) 1423 (j - 4000) (fun q => (lay 4000 51 ρ M3) (4000 + 1500 * 2 + q)) (lay 4000 51 ρ M3) hq
          rw [show 4000 + 1500 * 0 + (j - 4000) = j by omega] at this
          rw [this]
          show (lay 4000 51 ρ M3) (4000 + 1500 * 2 + (j - 4000)) = m j
          rw [lay_out (by omega), s3 _ (by omega) (by omega), vb _ (by omega), show 4000 + 1500 * 2 + (j - 4000) = 7000 + (j - 4000) by omega, va7 _ (by omega), show 4000 + (j - 4000) = j by omega]
        · have p1 := hj (3700, 3804) (by decide)
          have p2 := hj (3001, 3002) (by decide)
          have p3 := hj (7000, 8423) (by decide)
          have p4 := hj (3012, 3013) (by decide)
          simp only at p1 p2 p3 p4
          rw [lay_out (by omega), lay_out (by omega), s3 _ (by omega) (by omega), vb _ (by omega), va _ (by omega), pk_un (by omega)]
          exact fm1 j (fun p hp => by
            simp only [List.mem_append, List.mem_cons, List.not_mem_nil, or_false] at hp
            rcases hp with rfl | hp
            · exact hj (271, 272) (by decide)
            · exact hj p (List.mem_append_right _ hp))
      · rw [lay_out (by omega), lay_out (by omega), s3 _ (by omega) (by omega), vb _ (by omega), va _ (by omega), pk_un (by omega), c271]
      · rw [lay_out (by omega), lay_out (by omega), s3 _ (by omega) (by omega), vb _ (by omega), va _ (by omega), pk_us]
  · refine early (-1000000001) ?_ ?_
    · unfold f_X8_check
      simp only [w1, doI_some, doV_some, seqM_eq, chk_t, within_ev, bz_f hA, if_true]
    · unfold f_X9_check
      simp only [e3012, doI_some, doV_some, seqM_eq, chk_t, in_ev, bz_f hA, if_true]
end CHECK
