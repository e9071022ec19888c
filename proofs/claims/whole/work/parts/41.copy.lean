/-! PURE: copy -/
section COPY
variable {fu n N v k B s u : Nat} {σ τ ρ : Row} {m M M' : Mem} {X : TxS} {x x1 x2 x3 x4 x5 : Int32}
abbrev plP (z : Nat) (x2 x5 : Int32) : Prop := ¬ x5 < 0 ∧ ¬ nI z < x5 ∧ ¬ x2 < 0 ∧ ¬ nI z - x5 < x2
theorem chasPs_ev {z : Nat} (hz : m (hf s 1) = nI z) : f_X2_hasPlaces fu s x2 x5 m = some (bz (plP z x2 x5), m) := by
  unfold f_X2_hasPlaces
  rw [hz]
  by_cases a : x5 < 0
  · rw [if_pos a, bz_f (fun q => q.1 a)]
  · rw [if_neg a]
    by_cases b : nI z < x5
    · rw [if_pos b, bz_f (fun q => q.2.1 b)]
    · rw [if_neg b]
      by_cases c : x2 < 0
      · rw [if_pos c, bz_f (fun q => q.2.2.1 c)]
      · rw [if_neg c]
        by_cases d : nI z - x5 < x2
        · rw [if_pos d, bz_f (fun q => q.2.2.2 d)]
        · rw [if_neg d, bz_t ⟨a, b, c, d⟩]
theorem nonneg_nI (h : ¬ x < 0) : ∃ c, c < 2 ^ 31 ∧ x = nI c := by
  have a : ¬ x.toInt < (0 : Int32).toInt := fun z => h (Int32.lt_iff_toInt_lt.mpr z)
  have e0 : (0 : Int32).toInt = 0 := by decide
  have b := x.toInt_lt
  refine ⟨x.toInt.toNat, by omega, ?_⟩
  apply Int32.toInt_inj.mp
  rw [nI_toInt (by omega)]
  omega
theorem sub_lt {z c a : Nat} (hz : z ≤ 24) (hc : c < 2 ^ 31) (ha : a < 2 ^ 31) : (nI z - nI c < nI a) = (z < a + c) := propext (by
  have e : (nI z - nI c).toInt = (z : Int) - c := by
    rw [Int32.toInt_sub, nI_toInt (by omega), nI_toInt hc, Int.bmod_def]
    split <;> omega
  rw [Int32.lt_iff_toInt_lt, e, nI_toInt ha]
  omega)
theorem plP_nI {z : Nat} (hz : z ≤ 24) (h : plP z x2 x5) : ∃ a c, x2 = nI a ∧ x5 = nI c ∧ a + c ≤ z := by
  obtain ⟨c, hc, rfl⟩ := nonneg_nI h.1
  obtain ⟨a, ha, rfl⟩ := nonneg_nI h.2.2.1
  refine ⟨a, c, rfl, rfl, ?_⟩
  have := h.2.2.2
  rw [sub_lt hz hc ha] at this
  omega
theorem plP_of {z : Nat} (hz : z ≤ 24) (h1 : ¬ x2 < 0) (h2 : ¬ x5 < 0) (h3 : ¬ nI z - x5 < x2) : plP z x2 x5 := by
  refine ⟨h2, fun q => ?_, h1, h3⟩
  obtain ⟨c, hc, rfl⟩ := nonneg_nI h2
  obtain ⟨a, ha, rfl⟩ := nonneg_nI h1
  rw [sub_lt hz hc ha] at h3
  rw [nI_ltP (by omega) hc] at q
  omega
theorem mcopy1 {a b c : Nat} (hs : s < 4) (hac : a + c ≤ 24) {R : Option (Int32 × Mem)} (hR : f_X9_copy_141 fu fu x3 x4 (nI c) 0 (lay 3960 c (fun q => m (3830 + (24 * s + a + q))) m) = R) : ∀ (f i : Nat), i ≤ c → c - i < f → f_X9_copy_104 fu f (nI s) (nI a) x3 x4 (nI c) (nI i) (lay 3960 i (fun q => m (3830 + (24 * s + a + q))) m) = R := by
  intro f
  induction f with
  | zero => intro i _ h; omega
  | succ f ih =>
    intro i hi hf2
    rw [f_X9_copy_104]
    by_cases he : i = c
    · subst he
      rw [if_pos (nI_le (Nat.le_refl _) (by omega))]
      exact hR
    · rw [if_neg (nI_ge (by omega) (by omega)), ix24, nI_add, inb_nI (show 24 * s + a + i < 96 by omega) (by decide), inb_nI (show i < 24 by omega) (by decide), chk_t, chk_t, nI_clamp (by omega), nI_clamp (by omega), lay_out (by omega), seqM_eq, seqM_eq, nI_1]
      have := lay_snoc (σ := fun q => m (3830 + (24 * s + a + q))) (m := m) (b := 3960) (i := i)
      rw [this]
      exact ih (i + 1) (by omega) (by omega)
theorem mcopy2 {b c : Nat} (hu : u < 4) (hbc : b + c ≤ 24) : ∀ (f i : Nat), i ≤ c → c - i < f → f_X9_copy_141 fu f (nI u) (nI b) (nI c) (nI i) (lay (3830 + (24 * u + b)) i (fun q => m (3960 + q)) m) = some (nI c, lay (3830 + (24 * u + b)) c (fun q => m (3960 + q)) m) := by
  intro f
  induction f with
  | zero => intro i _ h; omega
  | succ f ih =>
    intro i hi hf2
    rw [f_X9_copy_141]
    by_cases he : i = c
    · subst he
      rw [if_pos (nI_le (Nat.le_refl _) (by omega))]
    · rw [if_neg (nI_ge (by omega) (by omega)), ix24, nI_add, inb_nI (show i < 24 by omega) (by decide), inb_nI (show 24 * u + b + i < 96 by omega) (by decide), chk_t, chk_t, nI_clamp (by omega), nI_clamp (by omega), lay_out (k := 3960 + i) (by omega), seqM_eq, seqM_eq, nI_1, show 3830 + (24 * u + b + i) = 3830 + (24 * u + b) + i by omega]
      have := lay_snoc (σ := fun q => m (3960 + q)) (m := m) (b := 3830 + (24 * u + b)) (i := i)
      rw [this]
      exact ih (i + 1) (by omega) (by omega)
def cpC (s u a b c : Nat) (m : Mem) : Mem := lay (500 + 24 * u + b) c (fun q => m (500 + 24 * s + a + q)) m
def cpAll (s u a b c : Nat) (m : Mem) : Mem := lay (3830 + (24 * u + b)) c (fun q => (lay 3960 c (fun q => (cpC s u a b c m) (3830 + (24 * s + a + q))) (cpC s u a b c m)) (3960 + q)) (lay 3960 c (fun q => (cpC s u a b c m) (3830 + (24 * s + a + q))) (cpC s u a b c m))
theorem cpM_eq {a b c : Nat} (ha : a < 2 ^ 31) (hb : b < 2 ^ 31) (hc : c < 2 ^ 31) : cpM m (500 + 24 * s) (500 + 24 * u) (nI a) (nI b) (nI c) = cpC s u a b c m := by
  unfold cpM cpC lay
  rw [nI_clamp ha, nI_clamp hb, nI_clamp hc]
theorem op_copy (hfu : 96 < fu) (hI : Inv m) : Op (f_X8_copy fu x1 x2 x3 x4 x5) (f_X9_copy fu x1 x2 x3 x4 x5) m := by
  have hI0 := hI
  obtain ⟨n, N, σ, τ, X, h1, h2, h3, h4, h5, h6, h7, h8, h9⟩ := hI
  by_cases hA : inR x1 0 3
  · obtain ⟨s, -, hs, rfl⟩ := inR_nI (a := 0) (b := 3) (by decide) (by decide) hA
    by_cases hA2 : inR x3 0 3
    · obtain ⟨u, -, hu, rfl⟩ := inR_nI (a := 0) (b := 3) (by decide) (by decide) hA2
      obtain ⟨z, hS⟩ := h6.sh (s := s) (by omega)
      obtain ⟨y, hU⟩ := h6.sh (s := u) (by omega)
      have hz := hS.size
      have hy := hU.size
      have i4 := inb_nI (show s < 4 by omega) (show 4 < 2 ^ 31 by decide)
      have c4 := nI_clamp (show s < 2 ^ 31 by omega)
      have j4 := inb_nI (show u < 4 by omega) (show 4 < 2 ^ 31 by decide)
      have d4 := nI_clamp (show u < 2 ^ 31 by omega)
      by_cases hB : m (hf s 0) = -1
      · refine op_pure hI0 (-1000000011) ?_ ?_
        · unfold f_X8_copy
          simp only [csheet_ev, bz_t hA, bz_t hA2, doI_some, doV_some, seqM_eq, chk_t, show ¬ (1 : Int32) = 0 by decide, if_false, i4, c4, j4, d4, cmiss_ev, bz_t hB]
        · unfold f_X9_copy
          simp only [msheet_ev, bz_t hA, bz_t hA2, doI_some, doV_some, seqM_eq, chk_t, show ¬ (1 : Int32) = 0 by decide, if_false, i4, c4, j4, d4, hS.neg, hB, if_true]
      · by_cases hC : m (hf u 0) = -1
        · refine op_pure hI0 (-1000000011) ?_ ?_
          · unfold f_X8_copy
            simp only [csheet_ev, bz_t hA, bz_t hA2, doI_some, doV_some, seqM_eq, chk_t, show ¬ (1 : Int32) = 0 by decide, if_false, i4, c4, j4, d4, cmiss_ev, bz_f hB, if_true, bz_t hC]
          · unfold f_X9_copy
            simp only [msheet_ev, bz_t hA, bz_t hA2, doI_some, doV_some, seqM_eq, chk_t, show ¬ (1 : Int32) = 0 by decide, if_false, i4, c4, j4, d4, hS.neg, hB, hU.pos, hC, not_true_eq_false]
        · by_cases hD : m (hf s 0) = m (hf u 0)
          · by_cases hP : plP z x2 x5 ∧ plP y x4 x5
            · obtain ⟨a, c, rfl, rfl, hac⟩ := plP_nI hz hP.1
              obtain ⟨b, c2, rfl, ec, hbc⟩ := plP_nI hy hP.2
              have ecc : c = c2 := by
                have := ec
                rw [nI_eqP (by omega) (by omega)] at this
                exact this
              subst ecc
              have hcp : ∀ q, (q < 500 ∨ 596 ≤ q) → cpC s u a b c m q = m q := fun q hq => by
                unfold cpC
                rw [lay_out (by omega)]
              have cc : ∀ v j, v < 4 → j < 24 → cpC s u a b c m (500 + 24 * v + j) = if v = u ∧ b ≤ j ∧ j < b + c then m (500 + 24 * s + a + (j - b)) else m (500 + 24 * v + j) := fun v j hv hj => by
                unfold cpC lay
                by_cases q : v = u ∧ b ≤ j ∧ j < b + c
                · rw [if_pos q, if_pos (by omega), show 500 + 24 * v + j - (500 + 24 * u + b) = j - b by omega]
                · rw [if_neg q, if_neg (by omega)]
              have hall : ∀ q, (q < 3830 ∨ (3926 ≤ q ∧ q < 3960) ∨ 3984 ≤ q) → cpAll s u a b c m q = cpC s u a b c m q := fun q hq => by
                unfold cpAll
                rw [lay_out (by omega), lay_out (by omega)]
              have cm : ∀ v j, v < 4 → j < 24 → cpAll s u a b c m (3830 + (24 * v + j)) = if v = u ∧ b ≤ j ∧ j < b + c then m (500 + 24 * s + a + (j - b)) else m (500 + 24 * v + j) := fun v j hv hj => by
                obtain ⟨zz, hV⟩ := h6.sh (s := v) hv
                by_cases q : v = u ∧ b ≤ j ∧ j < b + c
                · rw [if_pos q]
                  unfold cpAll
                  rw [show 3830 + (24 * v + j) = 3830 + (24 * u + b) + (j - b) by omega, lay_in (show j - b < c by omega)]
                  rw [lay_in (show j - b < c by omega), hcp _ (by omega), show 24 * s + a + (j - b) = 24 * s + (a + (j - b)) by omega, hS.cell _ (by omega)]
                  congr 1
                  omega
                · rw [if_neg q]
                  unfold cpAll
                  rw [lay_out (by omega), lay_out (by omega), hcp _ (by omega), hV.cell j hj]
              refine ⟨nI c, cpC s u a b c m, cpAll s u a b c m, ?_, ?_, inv_sht hI0 (fun j hj => ?_) (SHT.of (fun v hv => ?_))⟩
              · have ok : okCp (nI a) (nI b) (nI c) 24 24 = true := by
                  unfold okCp
                  rw [nI_clamp (by omega), nI_clamp (by omega), nI_clamp (by omega)]
                  exact decide_eq_true ⟨hP.1.2.2.1, hP.2.2.2.1, hP.1.1, by omega, by omega⟩
                unfold f_X8_copy
                simp only [csheet_ev, bz_t hA, bz_t hA2, doI_some, doV_some, seqM_eq, chk_t, show ¬ (1 : Int32) = 0 by decide, if_false, i4, c4, j4, d4, cmiss_ev, bz_f hB, if_true, bz_f hC, if_pos hD, chasPs_ev hS.csz, bz_t hP.1, chasPs_ev hU.csz, bz_t hP.2, ok, cpM_eq (s := s) (u := u) (m := m) (show a < 2 ^ 31 by omega) (show b < 2 ^ 31 by omega) (show c < 2 ^ 31 by omega)]
              · have w1 : cpC s u a b c m (3810 + s) = m (3810 + s) := hcp _ (by omega)
                have w2 : cpC s u a b c m (3810 + u) = m (3810 + u) := hcp _ (by omega)
                have w3 : cpC s u a b c m (3820 + s) = nI z := (hcp _ (by omega)).trans hS.msz
                have w4 : cpC s u a b c m (3820 + u) = nI y := (hcp _ (by omega)).trans hU.msz
                have w5 : nI b ≤ nI y - nI c := Int32.not_lt.mp hP.2.2.2.2
                have hmD : m (3810 + s) = m (3810 + u) := by rw [hS.msort, hU.msort, hD]
                have m2 := mcopy2 (fu := fu) (m := lay 3960 c (fun q => (cpC s u a b c m) (3830 + (24 * s + a + q))) (cpC s u a b c m)) (u := u) (by omega) (show b + c ≤ 24 by omega) fu 0 (Nat.zero_le _) (by omega)
                rw [lay_z] at m2
                have m1 := mcopy1 (fu := fu) (m := cpC s u a b c m) (b := b) (s := s) (by omega) (show a + c ≤ 24 by omega) m2 fu 0 (Nat.zero_le _) (by omega)
                rw [lay_z] at m1
                unfold f_X9_copy
                simp only [msheet_ev, bz_t hA, bz_t hA2, doI_some, doV_some, seqM_eq, chk_t, show ¬ (1 : Int32) = 0 by decide, if_false, i4, c4, j4, d4, w1, w2, w3, w4, hS.neg, hB, hU.pos, hC, not_false_eq_true, if_true, if_pos hmD, if_neg hP.1.2.2.1, if_neg hP.2.2.2.1, if_neg hP.1.1, if_neg hP.1.2.2.2, if_pos w5]
                exact m1
              · have p2 := hj (500, 596) (by decide)
                have p5 := hj (3830, 3926) (by decide)
                have p6 := hj (3960, 3984) (by decide)
                simp only at p2 p5 p6
                rw [hall j (by omega), hcp j (by omega)]
              · obtain ⟨zz, q1, q2, q3, q4, q5, q6, q7⟩ := h6.sh (s := v) hv
                have ho : ∀ q, (q < 500 ∨ (596 ≤ q ∧ q < 3830)) → cpAll s u a b c m q = m q := fun q hq => by rw [hall q (by omega), hcp q (by omega)]
                refine ⟨zz, by rw [ho _ (by unfold hf; omega)]; exact q1, by rw [ho _ (by omega), ho _ (by unfold hf; omega)]; exact q2, q3, by rw [ho _ (by unfold hf; omega)]; exact q4, by rw [ho _ (by omega)]; exact q5, fun j hj => ?_, fun j hj => ?_⟩
                · rw [cm v j hv hj, hall _ (by omega), cc v j hv hj]
                · rw [hall _ (by omega), cc v j hv hj]
                  split
                  · rename_i q
                    have := hS.ok (a + (j - b)) (by omega)
                    rw [← Nat.add_assoc] at this
                    exact this
                  · exact q7 j hj
            · refine op_pure hI0 (-1000000013) ?_ ?_
              · unfold f_X8_copy
                simp only [csheet_ev, bz_t hA, bz_t hA2, doI_some, doV_some, seqM_eq, chk_t, show ¬ (1 : Int32) = 0 by decide, if_false, i4, c4, j4, d4, cmiss_ev, bz_f hB, if_true, bz_f hC, if_pos hD, chasPs_ev hS.csz, chasPs_ev hU.csz]
                by_cases p1 : plP z x2 x5
                · rw [bz_t p1, if_neg (by decide), bz_f (fun q => hP ⟨p1, q⟩), if_pos rfl]
                · rw [bz_f p1, if_pos rfl]
              · have hmD : m (3810 + s) = m (3810 + u) := by rw [hS.msort, hU.msort, hD]
                unfold f_X9_copy
                simp only [msheet_ev, bz_t hA, bz_t hA2, doI_some, doV_some, seqM_eq, chk_t, show ¬ (1 : Int32) = 0 by decide, if_false, i4, c4, j4, d4, hS.neg, hB, hU.pos, hC, not_false_eq_true, if_true, if_pos hmD, hS.msz, hU.msz]
                by_cases g1 : x2 < 0
                · rw [if_pos g1]
                rw [if_neg g1]
                by_cases g2 : x4 < 0
                · rw [if_pos g2]
                rw [if_neg g2]
                by_cases g3 : x5 < 0
                · rw [if_pos g3]
                rw [if_neg g3]
                by_cases g4 : nI z - x5 < x2
                · rw [if_pos g4]
                rw [if_neg g4]
                by_cases g5 : x4 ≤ nI y - x5
                · exact absurd ⟨plP_of hz g1 g3 g4, plP_of hy g2 g3 (Int32.not_lt.mpr g5)⟩ hP
                · rw [if_neg g5]
          · have hmD : ¬ m (3810 + s) = m (3810 + u) := by rw [hS.msort, hU.msort]; exact hD
            refine op_pure hI0 (-1000000012) ?_ ?_
            · unfold f_X8_copy
              simp only [csheet_ev, bz_t hA, bz_t hA2, doI_some, doV_some, seqM_eq, chk_t, show ¬ (1 : Int32) = 0 by decide, if_false, i4, c4, j4, d4, cmiss_ev, bz_f hB, if_true, bz_f hC, if_neg hD]
            · unfold f_X9_copy
              simp only [msheet_ev, bz_t hA, bz_t hA2, doI_some, doV_some, seqM_eq, chk_t, show ¬ (1 : Int32) = 0 by decide, if_false, i4, c4, j4, d4, hS.neg, hB, hU.pos, hC, not_false_eq_true, if_true, if_neg hmD]
    · refine op_pure hI0 (-1000000001) ?_ ?_
      · unfold f_X8_copy
        simp only [csheet_ev, bz_t hA, bz_f hA2, doI_some, doV_some, seqM_eq, chk_t, show ¬ (1 : Int32) = 0 by decide, if_false, if_true]
      · unfold f_X9_copy
        simp only [msheet_ev, bz_t hA, bz_f hA2, doI_some, doV_some, seqM_eq, chk_t, show ¬ (1 : Int32) = 0 by decide, if_false, if_true]
  · refine op_pure hI0 (-1000000001) ?_ ?_
    · unfold f_X8_copy
      simp only [csheet_ev, bz_f hA, doI_some, doV_some, seqM_eq, chk_t, if_true]
    · unfold f_X9_copy
      simp only [msheet_ev, bz_f hA, doI_some, doV_some, seqM_eq, chk_t, if_true]
end COPY
