/-! PURE: sheet, item, ask, rest -/
section SLOTS
variable {fu n N v k B s : Nat} {σ τ ρ : Row} {m M M' : Mem} {X : TxS} {x x1 x2 x3 : Int32}
theorem cclear_L : ∀ (f i : Nat), i ≤ 24 → 24 - i < f → f_X2_clear_12 fu f s (nI i) (lay (500 + 24 * s) i (fun _ => 0) m) = some (lay (500 + 24 * s) 24 (fun _ => 0) m) := by
  intro f
  induction f with
  | zero => intro i _ h; omega
  | succ f ih =>
    intro i hi hf2
    rw [f_X2_clear_12]
    by_cases he : i = 24
    · subst he
      rw [if_pos (by decide)]
    · rw [if_neg (by rw [show (24 : Int32) = nI 24 from rfl]; exact nI_ge (by omega) (by decide)), inb_nI (show i < 24 by omega) (by decide), chk_t, nI_clamp (by omega), seqM_eq, seqM_eq, nI_1]
      have := lay_snoc (σ := fun _ => 0) (m := m) (b := 500 + 24 * s) (i := i)
      rw [this]
      exact ih (i + 1) (by omega) (by omega)
theorem lay_z {b : Nat} : lay b 0 σ m = m := by funext k; unfold lay; rw [if_neg (by omega)]
theorem cclear_ev (hfu : 24 < fu) {a b : Int32} : f_X2_clear fu s a b m = some (lay (500 + 24 * s) 24 (fun _ => 0) (upd (upd m (hf s 0) a) (hf s 1) b)) := by
  unfold f_X2_clear
  rw [seqM_eq, seqM_eq]
  have := cclear_L (fu := fu) (s := s) (m := upd (upd m (hf s 0) a) (hf s 1) b) fu 0 (by decide) (by omega)
  rw [lay_z] at this
  exact this
theorem msheet_L (hs : s < 4) {y : Int32} (hy : m (3820 + s) = y) : ∀ (f i : Nat), i ≤ 24 → 24 - i < f → f_X9_sheet_66 fu f (nI s) (nI i) (lay (3830 + 24 * s) i (fun _ => 0) m) = some (y, lay (3830 + 24 * s) 24 (fun _ => 0) m) := by
  intro f
  induction f with
  | zero => intro i _ h; omega
  | succ f ih =>
    intro i hi hf2
    rw [f_X9_sheet_66]
    by_cases he : i = 24
    · subst he
      rw [if_pos (by decide), inb_nI hs (by decide), chk_t, nI_clamp (by omega), lay_out (by omega), hy]
    · rw [if_neg (by rw [show (24 : Int32) = nI 24 from rfl]; exact nI_ge (by omega) (by decide)), ix24, inb_nI (show 24 * s + i < 96 by omega) (by decide), chk_t, nI_clamp (by omega), seqM_eq, seqM_eq, nI_1, show 3830 + (24 * s + i) = 3830 + 24 * s + i by omega]
      have := lay_snoc (σ := fun _ => 0) (m := m) (b := 3830 + 24 * s) (i := i)
      rw [this]
      exact ih (i + 1) (by omega) (by omega)
def shM (s : Nat) (a b : Int32) (m : Mem) : Mem := lay (3830 + 24 * s) 24 (fun _ => 0) (upd (upd (lay (500 + 24 * s) 24 (fun _ => 0) (upd (upd m (hf s 0) a) (hf s 1) b)) (3810 + s) a) (3820 + s) b)
theorem shM_sht (h : SHT m) (hs : s < 4) {a : Int32} {z : Nat} (hz : z ≤ 24) (ha : a = -1 ∨ a = 0 ∨ a = 1) : SHT (shM s a (nI z) m) := by
  refine SHT.of (fun u hu => ?_)
  obtain ⟨y, q1, q2, q3, q4, q5, q6, q7⟩ := h.sh hu
  by_cases e : u = s
  · subst e
    have v0 : shM u a (nI z) m (hf u 0) = a := by
      unfold shM hf
      rw [lay_out (by omega), pk_un (by omega), pk_un (by omega), lay_out (by omega), pk_un (by omega), pk_us]
    have v1 : shM u a (nI z) m (hf u 1) = nI z := by
      unfold shM hf
      rw [lay_out (by omega), pk_un (by omega), pk_un (by omega), lay_out (by omega), pk_us]
    have v2 : shM u a (nI z) m (3810 + u) = a := by
      unfold shM
      rw [lay_out (by omega), pk_un (by omega), pk_us]
    have v3 : shM u a (nI z) m (3820 + u) = nI z := by
      unfold shM
      rw [lay_out (by omega), pk_us]
    have v4 : ∀ j, j < 24 → shM u a (nI z) m (500 + 24 * u + j) = 0 := fun j hj => by
      unfold shM
      rw [lay_out (by omega), pk_un (by omega), pk_un (by omega), lay_in hj]
    have v5 : ∀ j, j < 24 → shM u a (nI z) m (3830 + (24 * u + j)) = 0 := fun j hj => by
      unfold shM
      rw [show 3830 + (24 * u + j) = 3830 + 24 * u + j by omega, lay_in hj]
    exact ⟨z, by rw [v0]; exact ha, by rw [v0, v2], hz, v1, v3, fun j hj => by rw [v4 j hj, v5 j hj], fun j hj => by rw [v4 j hj]; exact Or.inr (by decide)⟩
  · have ho : ∀ q, q < 300 ∨ (300 ≤ q ∧ q < 308 ∧ q ≠ hf s 0 ∧ q ≠ hf s 1) ∨ (500 ≤ q ∧ q < 596 ∧ (q < 500 + 24 * s ∨ 500 + 24 * s + 24 ≤ q)) ∨ (3810 ≤ q ∧ q < 3830 ∧ q ≠ 3810 + s ∧ q ≠ 3820 + s) ∨ (3830 ≤ q ∧ (q < 3830 + 24 * s ∨ 3830 + 24 * s + 24 ≤ q)) → shM s a (nI z) m q = m q := fun q hq => by
      unfold shM
      unfold hf at hq ⊢
      rw [lay_out (by omega), pk_un (by omega), pk_un (by omega), lay_out (by omega), pk_un (by omega), pk_un (by omega)]
    exact ⟨y, by rw [ho _ (by unfold hf; omega)]; exact q1, by rw [ho _ (by omega), ho _ (by unfold hf; omega)]; exact q2, q3, by rw [ho _ (by unfold hf; omega)]; exact q4, by rw [ho _ (by omega)]; exact q5, fun j hj => by rw [ho _ (by omega), ho _ (by omega)]; exact q6 j hj, fun j hj => by rw [ho _ (by omega)]; exact q7 j hj⟩
theorem shM_fr (hs : s < 4) {a b : Int32} : Fr (sSH ++ scr) m (shM s a b m) := fun j hj => by
  have p1 := hj (300, 308) (by decide)
  have p2 := hj (500, 596) (by decide)
  have p3 := hj (3810, 3814) (by decide)
  have p4 := hj (3820, 3824) (by decide)
  have p5 := hj (3830, 3926) (by decide)
  simp only at p1 p2 p3 p4 p5
  unfold shM hf
  rw [lay_out (by omega), pk_un (by omega), pk_un (by omega), lay_out (by omega), pk_un (by omega), pk_un (by omega)]
theorem msheet41 (hfu : 24 < fu) (hs : s < 4) {a b : Int32} : chk (inb (nI s) 4) (seqM (upd m (3810 + (nI s).toNatClampNeg) a) (fun m_2 : Mem => f_X9_sheet_62 fu (nI s) (nI s) b m_2)) = some (b, lay (3830 + 24 * s) 24 (fun _ => 0) (upd (upd m (3810 + s) a) (3820 + s) b)) := by
  unfold f_X9_sheet_62
  rw [inb_nI hs (by decide), chk_t, nI_clamp (by omega), seqM_eq, chk_t, seqM_eq]
  have := msheet_L (fu := fu) hs (y := b) (m := upd (upd m (3810 + s) a) (3820 + s) b) pk_us fu 0 (by decide) (by omega)
  rw [lay_z] at this
  exact this
theorem op_sheet (hfu : 96 < fu) (hI : Inv m) : Op (f_X8_sheet fu x1 x2 x3) (f_X9_sheet fu x1 x2 x3) m := by
  have hI0 := hI
  obtain ⟨n, N, σ, τ, X, h1, h2, h3, h4, h5, h6, h7, h8, h9⟩ := hI
  by_cases hA : inR x1 0 3
  · obtain ⟨s, -, hs, rfl⟩ := inR_nI (a := 0) (b := 3) (by decide) (by decide) hA
    have i4 := inb_nI (show s < 4 by omega) (show 4 < 2 ^ 31 by decide)
    have c4 := nI_clamp (show s < 2 ^ 31 by omega)
    by_cases hB : inR x2 (-1) 1
    · have h3v : x2 = -1 ∨ x2 = 0 ∨ x2 = 1 := by
        have a : ¬ x2.toInt < (-1 : Int32).toInt := fun z => hB.1 (Int32.lt_iff_toInt_lt.mpr z)
        have b : ¬ (1 : Int32).toInt < x2.toInt := fun z => hB.2 (Int32.lt_iff_toInt_lt.mpr z)
        have e1 : (-1 : Int32).toInt = -1 := by decide
        have e2 : (1 : Int32).toInt = 1 := by decide
        have e0 : (0 : Int32).toInt = 0 := by decide
        have : x2.toInt = -1 ∨ x2.toInt = 0 ∨ x2.toInt = 1 := by omega
        rcases this with q | q | q
        · exact Or.inl (Int32.toInt_inj.mp (by rw [q, e1]))
        · exact Or.inr (Or.inl (Int32.toInt_inj.mp (by rw [q, e0])))
        · exact Or.inr (Or.inr (Int32.toInt_inj.mp (by rw [q, e2])))
      by_cases hC : x2 = -1
      · subst hC
        refine ⟨0, lay (500 + 24 * s) 24 (fun _ => 0) (upd (upd m (hf s 0) (-1)) (hf s 1) 0), shM s (-1) (nI 0) m, ?_, ?_, inv_sht hI0 (shM_fr (by omega)) (shM_sht h6 (by omega) (by decide) (Or.inl rfl))⟩
        · unfold f_X8_sheet
          simp only [csheet_ev, bz_t hA, doI_some, doV_some, seqM_eq, chk_t, show ¬ (1 : Int32) = 0 by decide, if_false, within_ev, bz_t hB, if_true, i4, c4, cclear_ev (show 24 < fu by omega)]
        · unfold f_X9_sheet f_X9_sheet_29 f_X9_sheet_41
          simp only [msheet_ev, bz_t hA, doI_some, show ¬ (1 : Int32) = 0 by decide, if_false, in_ev, bz_t hB, if_true, show (-1 : Int32) < 0 by decide, show ¬ (0 : Int32) ≤ -1 by decide]
          exact msheet41 (by omega) (by omega)
      · have hC0 : ¬ x2 < 0 := by
          rcases h3v with q | q | q
          · exact absurd q hC
          · rw [q]; decide
          · rw [q]; decide
        by_cases hD : x3 ≤ 24
        · by_cases hE : 0 ≤ x3
          · have hR : inR x3 0 24 := ⟨Int32.not_lt.mpr hE, Int32.not_lt.mpr hD⟩
            obtain ⟨z, -, hz, rfl⟩ := inR_nI (a := 0) (b := 24) (by decide) (by decide) hR
            refine ⟨nI z, lay (500 + 24 * s) 24 (fun _ => 0) (upd (upd m (hf s 0) x2) (hf s 1) (nI z)), shM s x2 (nI z) m, ?_, ?_, inv_sht hI0 (shM_fr (by omega)) (shM_sht h6 (by omega) hz h3v)⟩
            · unfold f_X8_sheet
              simp only [csheet_ev, bz_t hA, doI_some, doV_some, seqM_eq, chk_t, show ¬ (1 : Int32) = 0 by decide, if_false, within_ev, bz_t hB, hC, if_pos hD, if_pos hE, i4, c4, cclear_ev (show 24 < fu by omega)]
            · unfold f_X9_sheet f_X9_sheet_29 f_X9_sheet_41
              simp only [msheet_ev, bz_t hA, doI_some, show ¬ (1 : Int32) = 0 by decide, if_false, in_ev, bz_t hB, hC0, if_pos hD, if_pos hE, if_pos (Int32.not_lt.mp hC0)]
              exact msheet41 (by omega) (by omega)
          · refine op_pure hI0 (-1000000014) ?_ ?_
            · unfold f_X8_sheet
              simp only [csheet_ev, bz_t hA, doI_some, doV_some, seqM_eq, chk_t, show ¬ (1 : Int32) = 0 by decide, if_false, within_ev, bz_t hB, hC, if_pos hD, if_neg hE]
            · unfold f_X9_sheet f_X9_sheet_29
              simp only [msheet_ev, bz_t hA, doI_some, doV_some, seqM_eq, chk_t, show ¬ (1 : Int32) = 0 by decide, if_false, in_ev, bz_t hB, hC0, if_pos hD, if_neg hE]
        · refine op_pure hI0 (-1000000001) ?_ ?_
          · unfold f_X8_sheet
            simp only [csheet_ev, bz_t hA, doI_some, doV_some, seqM_eq, chk_t, show ¬ (1 : Int32) = 0 by decide, if_false, within_ev, bz_t hB, hC, if_neg hD]
          · unfold f_X9_sheet
            simp only [msheet_ev, bz_t hA, doI_some, doV_some, seqM_eq, chk_t, show ¬ (1 : Int32) = 0 by decide, if_false, in_ev, bz_t hB, hC0, if_neg hD]
    · refine op_pure hI0 (-1000000001) ?_ ?_
      · unfold f_X8_sheet
        simp only [csheet_ev, bz_t hA, doI_some, doV_some, seqM_eq, chk_t, show ¬ (1 : Int32) = 0 by decide, if_false, within_ev, bz_f hB, if_true]
      · unfold f_X9_sheet
        simp only [msheet_ev, bz_t hA, doI_some, doV_some, seqM_eq, chk_t, show ¬ (1 : Int32) = 0 by decide, if_false, in_ev, bz_f hB, if_true]
  · refine op_pure hI0 (-1000000001) ?_ ?_
    · unfold f_X8_sheet
      simp only [csheet_ev, bz_f hA, doI_some, doV_some, seqM_eq, chk_t, if_true]
    · unfold f_X9_sheet
      simp only [msheet_ev, bz_f hA, doI_some, doV_some, seqM_eq, chk_t, if_true]
/-! item, ask, rest -/
theorem finding_ev {a : Int32} : f_X3_finding fu s a m = some (if m (lf s 0) = 0 then -1000000011 else if m (lf s 0) = a then 0 else -1000000012, m) := by
  unfold f_X3_finding
  rw [some_ite, some_ite]
theorem op_item (hI : Inv m) : Op (f_X8_item fu x1 x2) (f_X9_item fu x1 x2) m := by
  have hI0 := hI
  obtain ⟨n, N, σ, τ, X, h1, h2, h3, h4, h5, h6, h7, h8, h9⟩ := hI
  by_cases hA : inR x1 0 4
  · obtain ⟨j, -, hj, rfl⟩ := inR_nI (a := 0) (b := 4) (by decide) (by decide) hA
    obtain ⟨h, hh, c1, c2, c3, c4, c5⟩ := h7 j (by omega)
    have i5 := inb_nI (show j < 5 by omega) (show 5 < 2 ^ 31 by decide)
    have cj := nI_clamp (show j < 2 ^ 31 by omega)
    have e0 : ¬ h = 0 → ¬ nI h = 0 := fun q z => q (by rw [show (0 : Int32) = nI 0 from rfl, nI_eqP (by omega) (by decide)] at z; exact z)
    have e2 : ¬ h = 2 → ¬ nI h = 2 := fun q z => q (by rw [show (2 : Int32) = nI 2 from rfl, nI_eqP (by omega) (by decide)] at z; exact z)
    by_cases h0 : h = 0
    · subst h0
      rw [show nI 0 = (0 : Int32) from rfl] at c1 c2
      refine op_pure hI0 (-1000000011) ?_ ?_
      · unfold f_X8_item
        simp only [cslot_ev, bz_t hA, doI_some, doV_some, seqM_eq, chk_t, show ¬ (1 : Int32) = 0 by decide, if_false, i5, cj, finding_ev, c1, if_true, show ¬ (-1000000011 : Int32) = 0 by decide]
      · unfold f_X9_item
        simp only [mslot_ev, bz_t hA, doI_some, doV_some, seqM_eq, chk_t, show ¬ (1 : Int32) = 0 by decide, if_false, i5, cj, c2, if_true]
    · by_cases h2' : h = 2
      · subst h2'
        rw [show nI 2 = (2 : Int32) from rfl] at c1 c2
        obtain ⟨⟨z, hz, z1, z2⟩, cells⟩ := c4 rfl
        by_cases hC : isVp z x2
        · have hC2 : inR x2 0 (nI z - 1) := (inR_vp (by omega)).mpr hC
          obtain ⟨k, hk, rfl⟩ := isVp_nI (by omega) hC
          refine op_pure hI0 (if m (500 + 24 * (4 + j) + k) = -1000000005 then -1000000012 else m (500 + 24 * (4 + j) + k)) ?_ ?_
          · unfold f_X8_item
            simp only [cslot_ev, bz_t hA, doI_some, doV_some, seqM_eq, chk_t, show ¬ (1 : Int32) = 0 by decide, if_false, i5, cj, finding_ev, c1, show ¬ (2 : Int32) = 0 by decide, if_true, chasP_ev z1, bz_t hC, cnum_ev z1 hz (show k < 2 ^ 31 by omega), inb_nI (show k < 24 by omega) (show 24 < 2 ^ 31 by decide), nI_clamp (show k < 2 ^ 31 by omega)]
            by_cases d : m (500 + 24 * (4 + j) + k) = -1000000005
            · rw [bz_f (fun q => q.2 d), if_pos rfl, if_pos d]
            · rw [bz_t ⟨hk, d⟩, if_neg (by decide), if_neg d]
          · have ec : m (8500 + (24 * j + k)) = m (500 + 24 * (4 + j) + k) := by rw [← Nat.add_assoc]; exact cells k (by omega)
            unfold f_X9_item
            simp only [mslot_ev, bz_t hA, doI_some, doV_some, seqM_eq, chk_t, show ¬ (1 : Int32) = 0 by decide, if_false, i5, cj, c2, show ¬ (2 : Int32) = 0 by decide, if_true, z2, in_ev, bz_t hC2, ix24, inb_nI (show 24 * j + k < 120 by omega) (show 120 < 2 ^ 31 by decide), nI_clamp (show 24 * j + k < 2 ^ 31 by omega), ec, some_ite]
        · have hC2 : ¬ inR x2 0 (nI z - 1) := fun q => hC ((inR_vp (by omega)).mp q)
          refine op_pure hI0 (-1000000013) ?_ ?_
          · unfold f_X8_item
            simp only [cslot_ev, bz_t hA, doI_some, doV_some, seqM_eq, chk_t, show ¬ (1 : Int32) = 0 by decide, if_false, i5, cj, finding_ev, c1, show ¬ (2 : Int32) = 0 by decide, if_true, chasP_ev z1, bz_f hC]
          · unfold f_X9_item
            simp only [mslot_ev, bz_t hA, doI_some, doV_some, seqM_eq, chk_t, show ¬ (1 : Int32) = 0 by decide, if_false, i5, cj, c2, show ¬ (2 : Int32) = 0 by decide, if_true, z2, in_ev, bz_f hC2]
      · refine op_pure hI0 (-1000000012) ?_ ?_
        · unfold f_X8_item
          simp only [cslot_ev, bz_t hA, doI_some, doV_some, seqM_eq, chk_t, show ¬ (1 : Int32) = 0 by decide, if_false, i5, cj, finding_ev, c1, e0 h0, e2 h2', show ¬ (-1000000012 : Int32) = 0 by decide]
        · unfold f_X9_item
          simp only [mslot_ev, bz_t hA, doI_some, doV_some, seqM_eq, chk_t, show ¬ (1 : Int32) = 0 by decide, if_false, i5, cj, c2, e0 h0, e2 h2']
  · refine op_pure hI0 (-1000000001) ?_ ?_
    · unfold f_X8_item
      simp only [cslot_ev, bz_f hA, doI_some, doV_some, seqM_eq, chk_t, if_true]
    · unfold f_X9_item
      simp only [mslot_ev, bz_f hA, doI_some, doV_some, seqM_eq, chk_t, if_true]
theorem irem_m1 (a : Int32) : irem a (-1) = 0 := by
  have e : a / -1 = -a := by
    apply Int32.toInt_inj.mp
    rw [Int32.toInt_div, show (-1 : Int32).toInt = -1 by decide, Int.tdiv_neg, Int.tdiv_one, Int32.toInt_neg]
  unfold irem
  rw [e]
  rw [Int32.mul_neg, Int32.mul_one, Int32.neg_neg, Int32.sub_self]
theorem op_rest (hI : Inv m) : Op (f_X8_rest fu x1 x2) (f_X9_rest fu x1 x2) m := by
  have hI0 := hI
  obtain ⟨n, N, σ, τ, X, h1, h2, h3, h4, h5, h6, h7, h8, h9⟩ := hI
  by_cases hA : inR x1 0 4
  · obtain ⟨j, -, hj, rfl⟩ := inR_nI (a := 0) (b := 4) (by decide) (by decide) hA
    obtain ⟨h, hh, c1, c2, c3, c4, c5⟩ := h7 j (by omega)
    have i5 := inb_nI (show j < 5 by omega) (show 5 < 2 ^ 31 by decide)
    have cj := nI_clamp (show j < 2 ^ 31 by omega)
    have e0 : ¬ h = 0 → ¬ nI h = 0 := fun q z => q (by rw [show (0 : Int32) = nI 0 from rfl, nI_eqP (by omega) (by decide)] at z; exact z)
    have e2 : ¬ h = 3 → ¬ nI h = 3 := fun q z => q (by rw [show (3 : Int32) = nI 3 from rfl, nI_eqP (by omega) (by decide)] at z; exact z)
    by_cases h0 : h = 0
    · subst h0
      rw [show nI 0 = (0 : Int32) from rfl] at c1 c2
      refine op_pure hI0 (-1000000011) ?_ ?_
      · unfold f_X8_rest
        simp only [cslot_ev, bz_t hA, doI_some, doV_some, seqM_eq, chk_t, show ¬ (1 : Int32) = 0 by decide, if_false, i5, cj, finding_ev, c1, if_true, show ¬ (-1000000011 : Int32) = 0 by decide]
      · unfold f_X9_rest
        simp only [mslot_ev, bz_t hA, doI_some, doV_some, seqM_eq, chk_t, show ¬ (1 : Int32) = 0 by decide, if_false, i5, cj, c2, if_true]
    · by_cases h2' : h = 3
      · subst h2'
        rw [show nI 3 = (3 : Int32) from rfl] at c1 c2
        have c6 := c5 rfl
        by_cases d : x2 = 0
        · refine op_pure hI0 (-1000000002) ?_ ?_
          · unfold f_X8_rest
            simp only [cslot_ev, bz_t hA, doI_some, doV_some, seqM_eq, chk_t, show ¬ (1 : Int32) = 0 by decide, if_false, i5, cj, finding_ev, c1, if_true, show ¬ (3 : Int32) = 0 by decide, d]
          · unfold f_X9_rest
            simp only [mslot_ev, bz_t hA, doI_some, doV_some, seqM_eq, chk_t, show ¬ (1 : Int32) = 0 by decide, if_false, i5, cj, c2, if_true, show ¬ (3 : Int32) = 0 by decide, d]
        · have hnz : nz x2 = true := by unfold nz; exact decide_eq_true d
          refine op_pure hI0 (irem (m (lf j 1)) x2) ?_ ?_
          · unfold f_X8_rest
            simp only [cslot_ev, bz_t hA, doI_some, doV_some, seqM_eq, chk_t, show ¬ (1 : Int32) = 0 by decide, if_false, i5, cj, finding_ev, c1, if_true, show ¬ (3 : Int32) = 0 by decide, d, hnz]
          · unfold f_X9_rest
            simp only [mslot_ev, bz_t hA, doI_some, doV_some, seqM_eq, chk_t, show ¬ (1 : Int32) = 0 by decide, if_false, i5, cj, c2, if_true, show ¬ (3 : Int32) = 0 by decide, d, hnz, c6]
            by_cases e : x2 = -1
            · rw [if_pos e, e, irem_m1]
            · rw [if_neg e]
      · refine op_pure hI0 (-1000000012) ?_ ?_
        · unfold f_X8_rest
          simp only [cslot_ev, bz_t hA, doI_some, doV_some, seqM_eq, chk_t, show ¬ (1 : Int32) = 0 by decide, if_false, i5, cj, finding_ev, c1, e0 h0, e2 h2', show ¬ (-1000000012 : Int32) = 0 by decide]
        · unfold f_X9_rest
          simp only [mslot_ev, bz_t hA, doI_some, doV_some, seqM_eq, chk_t, show ¬ (1 : Int32) = 0 by decide, if_false, i5, cj, c2, e0 h0, e2 h2']
  · refine op_pure hI0 (-1000000001) ?_ ?_
    · unfold f_X8_rest
      simp only [cslot_ev, bz_f hA, doI_some, doV_some, seqM_eq, chk_t, if_true]
    · unfold f_X9_rest
      simp only [mslot_ev, bz_f hA, doI_some, doV_some, seqM_eq, chk_t, if_true]
theorem worthG {i : Nat} : f_X7_worth fu i m = some (worthP (m (vf i 0)) (m (vf i 2)), m) := by
  unfold f_X7_worth worthP
  have e : ∀ t : Int32, 99 - t - 7 = 92 - t := fun t => by
    rw [Int32.sub_eq_add_neg, Int32.sub_eq_add_neg, Int32.add_assoc, Int32.add_comm (-t), ← Int32.add_assoc, Int32.sub_eq_add_neg]
    rfl
  rw [seqM_eq, e]
  simp only [some_ite]
abbrev underP (k y : Int32) : Prop := k = y ∨ (k = 3 ∧ y = 1) ∨ (k = 4 ∧ y = 2) ∨ y = 0
theorem isOfG {i : Nat} {y : Int32} : f_X7_isOf fu i y m = some (bz (underP (m (vf i 0)) y), m) := by
  unfold f_X7_isOf f_X7_isOf_20 f_X7_aboveHer
  generalize m (vf i 0) = k
  by_cases a : k = y
  · rw [if_pos a, bz_t (Or.inl a)]
  · rw [if_neg a]
    by_cases b : k = 3
    · subst b
      by_cases c : y = 1
      · subst c
        rw [bz_t (Or.inr (Or.inl ⟨rfl, rfl⟩))]
        rfl
      · by_cases d : y = 0
        · subst d
          rw [bz_t (Or.inr (Or.inr (Or.inr rfl)))]
          rfl
        · rw [bz_f (by rintro (q | ⟨-, q⟩ | ⟨q, -⟩ | q); exact a q; exact c q; exact absurd q (by decide); exact d q)]
          simp only [seqM_eq, doI_some, show ¬ (1 : Int32) = y from fun z => c z.symm, if_false, d, if_true]
    · by_cases b4 : k = 4
      · subst b4
        by_cases c : y = 2
        · subst c
          rw [bz_t (Or.inr (Or.inr (Or.inl ⟨rfl, rfl⟩)))]
          rfl
        · by_cases d : y = 0
          · subst d
            rw [bz_t (Or.inr (Or.inr (Or.inr rfl)))]
            rfl
          · rw [bz_f (by rintro (q | ⟨q, -⟩ | ⟨-, q⟩ | q); exact a q; exact absurd q (by decide); exact c q; exact d q)]
            simp only [seqM_eq, doI_some, show ¬ (4 : Int32) = 3 by decide, show ¬ (2 : Int32) = y from fun z => c z.symm, if_false, d, if_true]
      · by_cases d : y = 0
        · subst d
          rw [bz_t (Or.inr (Or.inr (Or.inr rfl)))]
          simp only [seqM_eq, b, b4, if_false, doI_some, if_true]
        · rw [bz_f (by rintro (q | ⟨q, -⟩ | ⟨q, -⟩ | q); exact a q; exact b q; exact b4 q; exact d q)]
          simp only [seqM_eq, b, b4, if_false, doI_some, show ¬ (0 : Int32) = y from fun z => d z.symm, d]
theorem isUnderG {k y : Int32} : f_X9_isUnder fu k y m = some (bz (underP k y), m) := by
  rw [misUnder_ev]
  by_cases d : y = 0
  · subst d
    rw [bz_t (Or.inr (Or.inr (Or.inr rfl)))]
    rfl
  by_cases a : k = y
  · rw [if_neg d, if_pos a, bz_t (Or.inl a)]
  by_cases c : y = 1
  · subst c
    by_cases b : k = 3
    · rw [if_neg d, if_neg a, if_pos rfl, if_pos b, bz_t (Or.inr (Or.inl ⟨b, rfl⟩))]
    · rw [if_neg d, if_neg a, if_pos rfl, if_neg b, if_neg (by decide), bz_f (by rintro (q | ⟨q, -⟩ | ⟨-, q⟩ | q); exact a q; exact b q; exact absurd q (by decide); exact d q)]
  by_cases e : y = 2
  · subst e
    by_cases b : k = 4
    · rw [if_neg d, if_neg a, if_neg c, if_pos rfl, if_pos b, bz_t (Or.inr (Or.inr (Or.inl ⟨b, rfl⟩)))]
    · rw [if_neg d, if_neg a, if_neg c, if_pos rfl, if_neg b, bz_f (by rintro (q | ⟨-, q⟩ | ⟨q, -⟩ | q); exact a q; exact c q; exact b q; exact d q)]
  · rw [if_neg d, if_neg a, if_neg c, if_neg e, bz_f (by rintro (q | ⟨-, q⟩ | ⟨-, q⟩ | q); exact a q; exact c q; exact e q; exact d q)]
theorem op_ask (hI : Inv m) : Op (f_X8_ask fu x1 x2) (f_X9_ask fu x1 x2) m := by
  have hI0 := hI
  obtain ⟨n, N, σ, τ, X, h1, h2, h3, h4, h5, h6, h7, h8, h9⟩ := hI
  by_cases hA : inR x1 0 4
  · obtain ⟨j, -, hj, rfl⟩ := inR_nI (a := 0) (b := 4) (by decide) (by decide) hA
    by_cases hB : inR x2 0 5
    · obtain ⟨h, hh, c1, c2, c3, c4, c5⟩ := h7 j (by omega)
      have i5 := inb_nI (show j < 5 by omega) (show 5 < 2 ^ 31 by decide)
      have cj := nI_clamp (show j < 2 ^ 31 by omega)
      have e0 : ¬ h = 0 → ¬ nI h = 0 := fun q z => q (by rw [show (0 : Int32) = nI 0 from rfl, nI_eqP (by omega) (by decide)] at z; exact z)
      have e2 : ¬ h = 1 → ¬ nI h = 1 := fun q z => q (by rw [show (1 : Int32) = nI 1 from rfl, nI_eqP (by omega) (by decide)] at z; exact z)
      by_cases h0 : h = 0
      · subst h0
        rw [show nI 0 = (0 : Int32) from rfl] at c1 c2
        refine op_pure hI0 (-1000000011) ?_ ?_
        · unfold f_X8_ask
          simp only [cslot_ev, bz_t hA, doI_some, doV_some, seqM_eq, chk_t, show ¬ (1 : Int32) = 0 by decide, if_false, isKind_ev, bz_t hB, i5, cj, finding_ev, c1, if_true, show ¬ (-1000000011 : Int32) = 0 by decide]
        · unfold f_X9_ask
          simp only [mslot_ev, bz_t hA, doI_some, doV_some, seqM_eq, chk_t, show ¬ (1 : Int32) = 0 by decide, if_false, in_ev, bz_t hB, i5, cj, c2, if_true]
      · by_cases h2' : h = 1
        · subst h2'
          rw [show nI 1 = (1 : Int32) from rfl] at c1 c2
          obtain ⟨c6, c7⟩ := c3 rfl
          refine op_pure hI0 (if bz (underP (m (vf (30 + j) 0)) x2) = 0 then -1000000012 else worthP (m (vf (30 + j) 0)) (m (vf (30 + j) 2))) ?_ ?_
          · unfold f_X8_ask
            simp only [cslot_ev, bz_t hA, doI_some, doV_some, seqM_eq, chk_t, show ¬ (1 : Int32) = 0 by decide, if_false, isKind_ev, bz_t hB, i5, cj, finding_ev, c1, if_true, isOfG, worthG, some_ite]
          · unfold f_X9_ask
            simp only [mslot_ev, bz_t hA, doI_some, doV_some, seqM_eq, chk_t, show ¬ (1 : Int32) = 0 by decide, if_false, in_ev, bz_t hB, i5, cj, c2, if_true, c6, c7, isUnderG, some_ite]
        · refine op_pure hI0 (-1000000012) ?_ ?_
          · unfold f_X8_ask
            simp only [cslot_ev, bz_t hA, doI_some, doV_some, seqM_eq, chk_t, show ¬ (1 : Int32) = 0 by decide, if_false, isKind_ev, bz_t hB, i5, cj, finding_ev, c1, e0 h0, e2 h2', show ¬ (-1000000012 : Int32) = 0 by decide]
          · unfold f_X9_ask
            simp only [mslot_ev, bz_t hA, doI_some, doV_some, seqM_eq, chk_t, show ¬ (1 : Int32) = 0 by decide, if_false, in_ev, bz_t hB, i5, cj, c2, e0 h0, e2 h2']
    · refine op_pure hI0 (-1000000001) ?_ ?_
      · unfold f_X8_ask
        simp only [cslot_ev, bz_t hA, doI_some, doV_some, seqM_eq, chk_t, show ¬ (1 : Int32) = 0 by decide, if_false, isKind_ev, bz_f hB, if_true]
      · unfold f_X9_ask
        simp only [mslot_ev, bz_t hA, doI_some, doV_some, seqM_eq, chk_t, show ¬ (1 : Int32) = 0 by decide, if_false, in_ev, bz_f hB, if_true]
  · refine op_pure hI0 (-1000000001) ?_ ?_
    · unfold f_X8_ask
      simp only [cslot_ev, bz_f hA, doI_some, doV_some, seqM_eq, chk_t, if_true]
    · unfold f_X9_ask
      simp only [mslot_ev, bz_f hA, doI_some, doV_some, seqM_eq, chk_t, if_true]
end SLOTS
