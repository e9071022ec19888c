/-! PURE: lay -/
def SL (m : Mem) (j : Nat) : Prop := ∃ h, h < 4 ∧ m (lf j 0) = nI h ∧ m (3930 + j) = nI h ∧ (h = 1 → m (3940 + j) = m (vf (30 + j) 0) ∧ m (3950 + j) = worthP (m (vf (30 + j) 0)) (m (vf (30 + j) 2))) ∧ (h = 2 → (∃ z, z ≤ 24 ∧ m (hf (4 + j) 1) = nI z ∧ m (3940 + j) = nI z) ∧ ∀ k, k < 24 → m (8500 + 24 * j + k) = m (500 + 24 * (4 + j) + k)) ∧ (h = 3 → m (3940 + j) = m (lf j 1))
section LAY
variable {fu n N v k B s j : Nat} {σ τ ρ : Row} {m M M' : Mem} {X : TxS} {x x1 x2 x3 : Int32}
/-- the cells of slot j -/
def ofSlot (j q : Nat) : Prop := (226 + 7 * j ≤ q ∧ q < 233 + 7 * j) ∨ q = 308 + 2 * j ∨ q = 309 + 2 * j ∨ q = 320 + 2 * j ∨ q = 321 + 2 * j ∨ (596 + 24 * j ≤ q ∧ q < 620 + 24 * j) ∨ q = 3930 + j ∨ q = 3940 + j ∨ q = 3950 + j ∨ (8500 + 24 * j ≤ q ∧ q < 8524 + 24 * j)
theorem SL.on (h : SL m j) (ho : ∀ q, ofSlot j q → M q = m q) : SL M j := by
  obtain ⟨q, hq, a, b, c, d, e⟩ := h
  unfold SL
  rw [ho (lf j 0) (by unfold ofSlot lf; omega), ho (lf j 1) (by unfold ofSlot lf; omega), ho (3930 + j) (by unfold ofSlot; omega), ho (3940 + j) (by unfold ofSlot; omega), ho (3950 + j) (by unfold ofSlot; omega), ho (vf (30 + j) 0) (by unfold ofSlot vf; omega), ho (vf (30 + j) 2) (by unfold ofSlot vf; omega), ho (hf (4 + j) 1) (by unfold ofSlot hf; omega)]
  refine ⟨q, hq, a, b, c, fun z => ⟨(d z).1, fun k hk => ?_⟩, e⟩
  rw [ho (8500 + 24 * j + k) (by unfold ofSlot; omega), ho (500 + 24 * (4 + j) + k) (by unfold ofSlot; omega)]
  exact (d z).2 k hk
theorem slt_one (h : SLT m) (hj : j < 5) (hf : ∀ q, ¬ ofSlot j q → M q = m q) (h1 : SL M j) : SLT M := fun i hi => by
  by_cases e : i = j
  · subst e; exact h1
  · have : SL m i := h i hi
    exact this.on (fun q hq => hf q (by unfold ofSlot at hq ⊢; omega))
theorem inv_one (hI : Inv m) (hj : j < 5) (hf : ∀ q, ¬ ofSlot j q → M q = m q) (h1 : SL M j) : Inv M := by
  have hI0 := hI
  obtain ⟨n, N, σ, τ, X, -, -, -, -, -, -, h7, -, -⟩ := hI
  refine inv_slt hI0 (fun q hq => hf q ?_) (slt_one h7 hj hf h1)
  have p1 := hq (226, 261) (by decide)
  have p2 := hq (308, 318) (by decide)
  have p3 := hq (320, 330) (by decide)
  have p4 := hq (596, 716) (by decide)
  have p5 := hq (3930, 3935) (by decide)
  have p6 := hq (3940, 3945) (by decide)
  have p7 := hq (3950, 3955) (by decide)
  have p8 := hq (8500, 8620) (by decide)
  simp only at p1 p2 p3 p4 p5 p6 p7 p8
  unfold ofSlot
  omega
/-- the slot's voice becomes voice v -/
theorem vbecome (hj : j < 5) (hv : v < 5) : ∃ m1, f_X7_become fu (30 + j) (10 * 0 + v) m = some m1 ∧ m1 (vf (30 + j) 0) = m (vf (10 * 0 + v) 0) ∧ m1 (vf (30 + j) 2) = m (vf (10 * 0 + v) 2) ∧ ∀ q, ¬ (226 + 7 * j ≤ q ∧ q < 233 + 7 * j) → m1 q = m q := by
  unfold f_X7_become
  refine ⟨_, rfl, ?_, ?_, fun q hq => ?_⟩
  · unfold vf
    rw [pk_un (by omega), pk_un (by omega), pk_un (by omega), pk_un (by omega), pk_un (by omega), pk_un (by omega), pk_us]
  · unfold vf
    rw [pk_un (by omega), pk_un (by omega), pk_un (by omega), pk_un (by omega), pk_us, pk_un (by omega), pk_un (by omega)]
  · unfold vf
    rw [pk_un (by omega), pk_un (by omega), pk_un (by omega), pk_un (by omega), pk_un (by omega), pk_un (by omega), pk_un (by omega)]
theorem sbecome (hj : j < 5) (hs : s < 4) : ∃ m1, f_X2_become fu (4 + j) s m = some m1 ∧ m1 (hf (4 + j) 1) = m (hf s 1) ∧ (∀ k, k < 24 → m1 (500 + 24 * (4 + j) + k) = m (500 + 24 * s + k)) ∧ ∀ q, ¬ (q = 308 + 2 * j ∨ q = 309 + 2 * j ∨ (596 + 24 * j ≤ q ∧ q < 620 + 24 * j)) → m1 q = m q := by
  unfold f_X2_become
  rw [show okCp 0 0 24 24 24 = true by decide]
  simp only [chk_t, seqM_eq]
  refine ⟨_, rfl, ?_, fun k hk => ?_, fun q hq => ?_⟩
  · unfold cpM
    rw [show (0 : Int32).toNatClampNeg = 0 by decide, show (24 : Int32).toNatClampNeg = 24 by decide, if_neg (by unfold hf; omega), pk_us]
    unfold hf
    rw [pk_un (by omega)]
  · unfold cpM
    rw [show (0 : Int32).toNatClampNeg = 0 by decide, show (24 : Int32).toNatClampNeg = 24 by decide, if_pos (by omega)]
    unfold hf
    rw [pk_un (by omega), pk_un (by omega)]
    congr 1
    omega
  · unfold cpM
    rw [show (0 : Int32).toNatClampNeg = 0 by decide, show (24 : Int32).toNatClampNeg = 24 by decide, if_neg (by omega)]
    unfold hf
    rw [pk_un (by omega), pk_un (by omega)]
theorem mlay_L (hj : j < 5) (hs : s < 4) {y : Int32} : ∀ (f i : Nat), i ≤ 24 → 24 - i < f → f_X9_lay_134 fu f (nI j) 2 (nI s) y (nI i) (lay (8500 + 24 * j) i (fun q => m (3830 + (24 * s + q))) m) = some (y, lay (8500 + 24 * j) 24 (fun q => m (3830 + (24 * s + q))) m) := by
  intro f
  induction f with
  | zero => intro i _ h; omega
  | succ f ih =>
    intro i hi hf2
    rw [f_X9_lay_134]
    by_cases he : i = 24
    · subst he
      rw [if_pos (by decide)]
    · rw [if_neg (by rw [show (24 : Int32) = nI 24 from rfl]; exact nI_ge (by omega) (by decide)), if_pos rfl, ix24, ix24, inb_nI (show 24 * s + i < 96 by omega) (by decide), inb_nI (show 24 * j + i < 120 by omega) (by decide), chk_t, chk_t, nI_clamp (by omega), nI_clamp (by omega), lay_out (k := 3830 + (24 * s + i)) (by omega), seqM_eq, seqM_eq, nI_1, show 8500 + (24 * j + i) = 8500 + 24 * j + i by omega]
      have := lay_snoc (σ := fun q => m (3830 + (24 * s + q))) (m := m) (b := 8500 + 24 * j) (i := i)
      rw [this]
      exact ih (i + 1) (by omega) (by omega)
theorem mlay_0 (hfu : 1 < fu) {y : Int32} (h2 : ¬ x2 = 2) : f_X9_lay_134 fu fu x1 x2 x3 y 0 m = some (y, m) := by
  obtain ⟨g, rfl⟩ : ∃ g, fu = g + 1 := ⟨fu - 1, by omega⟩
  rw [f_X9_lay_134, if_neg (by decide), if_neg h2]
theorem mworth0 (h : RW n σ τ m) (hv : v < n) : f_X9_worthOf fu (nI v) m = some (worthS σ v, m) := by
  have hn := h.2.2.2.1.2.1
  have := mworth_ev (fu := fu) (σ := τ) (m := m) (show v < 5 by omega)
  rw [← h.layM, h.2.2.1.worth hv] at this
  exact this
theorem op_lay (hfu : 96 < fu) (hI : Inv m) : Op (f_X8_lay fu x1 x2 x3) (f_X9_lay fu x1 x2 x3) m := by
  have hI0 := hI
  obtain ⟨n, N, σ, τ, X, h1, h2, h3, h4, h5, h6, h7, h8, h9⟩ := hI
  have hn := h1.2.2.2.1.2.1
  by_cases hA : inR x1 0 4
  · obtain ⟨j, -, hj, rfl⟩ := inR_nI (a := 0) (b := 4) (by decide) (by decide) hA
    have i5 := inb_nI (show j < 5 by omega) (show 5 < 2 ^ 31 by decide)
    have cj := nI_clamp (show j < 2 ^ 31 by omega)
    obtain ⟨h, hh, c1, c2, -, -, -⟩ := h7 j (by omega)
    by_cases hB : inR x2 0 3
    · obtain ⟨p, -, hp, rfl⟩ := inR_nI (a := 0) (b := 3) (by decide) (by decide) hB
      have ep1 : (nI p = 1) = (p = 1) := nI_eqP (b := 1) (by omega) (by decide)
      have ep2 : (nI p = 2) = (p = 2) := nI_eqP (b := 2) (by omega) (by decide)
      by_cases p1 : p = 1
      · subst p1
        rw [show nI 1 = (1 : Int32) from rfl] at *
        by_cases hV : isVp n x3
        · obtain ⟨v, hvn, rfl⟩ := isVp_nI (by omega) hV
          have hv5 : v < 5 := by omega
          obtain ⟨m1, e1, e2, e3, e4⟩ := vbecome (fu := fu) (m := upd m (lf j 0) 1) (j := j) (v := v) (by omega) hv5
          have w : ∀ q, ¬ ofSlot j q → m1 q = m q := fun q hq => by
            rw [e4 q (by unfold ofSlot at hq; omega), pk_un (by unfold ofSlot at hq; unfold lf; omega)]
          have r1 : RW n σ τ m1 := h1.on (fun q hq => w q (by obtain ⟨a, ha, b, c⟩ := hq; simp only [sRW, List.mem_cons, List.not_mem_nil, or_false] at ha; unfold ofSlot; rcases ha with rfl | rfl <;> simp only at b c <;> omega))
          have k0 : m1 (vf (30 + j) 0) = σ (ps v 0) := by rw [e2, pk_un (by unfold vf lf; omega), h1.cv hvn hn (by decide)]
          have k2 : m1 (vf (30 + j) 2) = σ (ps v 2) := by rw [e3, pk_un (by unfold vf lf; omega), h1.cv hvn hn (by decide)]
          have m3930 : m1 (3930 + j) = nI h := by rw [e4 _ (by omega), pk_un (by unfold lf; omega), c2]
          have rA : RW n σ τ (upd m1 (3930 + j) 1) := r1.on (fun q hq => pk_un (by obtain ⟨a, ha, b, c⟩ := hq; simp only [sRW, List.mem_cons, List.not_mem_nil, or_false] at ha; rcases ha with rfl | rfl <;> simp only at b c <;> omega))
          have rB : RW n σ τ (upd (upd m1 (3930 + j) 1) (3940 + j) (σ (ps v 0))) := rA.on (fun q hq => pk_un (by obtain ⟨a, ha, b, c⟩ := hq; simp only [sRW, List.mem_cons, List.not_mem_nil, or_false] at ha; rcases ha with rfl | rfl <;> simp only at b c <;> omega))
          have o0 := of0 (fu := fu) rA hvn (show 0 < 7 by decide)
          rw [show nI 0 = (0 : Int32) from rfl] at o0
          refine ⟨nI h, m1, upd (upd (upd m1 (3930 + j) 1) (3940 + j) (σ (ps v 0))) (3950 + j) (worthS σ v), ?_, ?_, inv_one hI0 (j := j) (by omega) (fun q hq => ?_) ⟨1, by decide, ?_, ?_, fun _ => ⟨?_, ?_⟩, fun z => absurd z (by decide), fun z => absurd z (by decide)⟩⟩
          · unfold f_X8_lay f_X8_lay_35 f_X8_lay_50 f_X8_lay_70
            simp only [cslot_ev, bz_t hA, doI_some, doV_some, seqM_eq, chk_t, show ¬ (1 : Int32) = 0 by decide, if_false, within_ev, bz_t hB, if_true, chas0 h1, bz_t hV, show ¬ (1 : Int32) = 2 by decide, i5, cj, c1, inb_nI hv5 (show 5 < 2 ^ 31 by decide), nI_clamp (show v < 2 ^ 31 by omega), e1]
          · unfold f_X9_lay f_X9_lay_29 f_X9_lay_44 f_X9_lay_61 f_X9_lay_110 f_X9_lay_130
            simp only [mslot_ev, bz_t hA, doI_some, doV_some, seqM_eq, chk_t, show ¬ (1 : Int32) = 0 by decide, if_false, in_ev, bz_t hB, if_true, misV0 r1, bz_t hV, show ¬ (1 : Int32) = 2 by decide, i5, cj, m3930, o0, mworth0 rB hvn, mlay_0 (show 1 < fu by omega) (show ¬ (1 : Int32) = 2 by decide)]
          · rw [pk_un (by unfold ofSlot at hq; omega), pk_un (by unfold ofSlot at hq; omega), pk_un (by unfold ofSlot at hq; omega), w q hq]
          · rw [pk_un (by unfold lf; omega), pk_un (by unfold lf; omega), pk_un (by unfold lf; omega), e4 _ (by unfold lf; omega), pk_us]; rfl
          · rw [pk_un (by omega), pk_un (by omega), pk_us]; rfl
          · rw [pk_un (by omega), pk_us, pk_un (by unfold vf; omega), pk_un (by unfold vf; omega), pk_un (by unfold vf; omega), k0]
          · rw [pk_us, pk_un (by unfold vf; omega), pk_un (by unfold vf; omega), pk_un (by unfold vf; omega), k0, pk_un (by unfold vf; omega), pk_un (by unfold vf; omega), pk_un (by unfold vf; omega), k2]; rfl
        · refine op_pure hI0 (-1000000001) ?_ ?_
          · unfold f_X8_lay
            simp only [cslot_ev, bz_t hA, doI_some, doV_some, seqM_eq, chk_t, show ¬ (1 : Int32) = 0 by decide, if_false, within_ev, bz_t hB, if_true, chas0 h1, bz_f hV]
          · unfold f_X9_lay
            simp only [mslot_ev, bz_t hA, doI_some, doV_some, seqM_eq, chk_t, show ¬ (1 : Int32) = 0 by decide, if_false, in_ev, bz_t hB, if_true, misV0 h1, bz_f hV]
      · by_cases p2 : p = 2
        · subst p2
          rw [show nI 2 = (2 : Int32) from rfl] at *
          by_cases hV : inR x3 0 3
          · obtain ⟨s, -, hs, rfl⟩ := inR_nI (a := 0) (b := 3) (by decide) (by decide) hV
            obtain ⟨z, hS⟩ := h6.sh (s := s) (by omega)
            have hz := hS.size
            have i4 := inb_nI (show s < 4 by omega) (show 4 < 2 ^ 31 by decide)
            have c4 := nI_clamp (show s < 2 ^ 31 by omega)
            by_cases hM : m (hf s 0) = -1
            · refine op_pure hI0 (-1000000011) ?_ ?_
              · unfold f_X8_lay f_X8_lay_35 f_X8_lay_50
                simp only [cslot_ev, bz_t hA, doI_some, doV_some, seqM_eq, chk_t, show ¬ (1 : Int32) = 0 by decide, if_false, within_ev, bz_t hB, if_true, show ¬ (2 : Int32) = 1 by decide, csheet_ev, bz_t hV, i4, c4, cmiss_ev, bz_t hM]
              · unfold f_X9_lay f_X9_lay_29 f_X9_lay_44
                simp only [mslot_ev, bz_t hA, doI_some, doV_some, seqM_eq, chk_t, show ¬ (1 : Int32) = 0 by decide, if_false, in_ev, bz_t hB, if_true, show ¬ (2 : Int32) = 1 by decide, msheet_ev, bz_t hV, i4, c4, hS.pos, hM, not_true_eq_false]
            · obtain ⟨m1, e1, e2, e3, e4⟩ := sbecome (fu := fu) (m := upd m (lf j 0) 2) (j := j) (s := s) (by omega) (by omega)
              have w : ∀ q, ¬ ofSlot j q → m1 q = m q := fun q hq => by
                rw [e4 q (by unfold ofSlot at hq; omega), pk_un (by unfold ofSlot at hq; unfold lf; omega)]
              have m3930 : m1 (3930 + j) = nI h := by rw [e4 _ (by omega), pk_un (by unfold lf; omega), c2]
              have m3810 : (0 ≤ m1 (3810 + s)) = ¬ m (hf s 0) = -1 := by rw [w _ (by unfold ofSlot; omega)]; exact hS.pos
              have m3820 : (upd m1 (3930 + j) 2) (3820 + s) = nI z := by rw [pk_un (by omega), w _ (by unfold ofSlot; omega), hS.msz]
              have L := mlay_L (fu := fu) (m := upd (upd (upd m1 (3930 + j) 2) (3940 + j) (nI z)) (3950 + j) 0) (j := j) (s := s) (y := nI h) (by omega) (by omega) fu 0 (by decide) (by omega)
              rw [lay_z, show nI 0 = (0 : Int32) from rfl] at L
              refine ⟨nI h, m1, lay (8500 + 24 * j) 24 (fun q => (upd (upd (upd m1 (3930 + j) 2) (3940 + j) (nI z)) (3950 + j) 0) (3830 + (24 * s + q))) (upd (upd (upd m1 (3930 + j) 2) (3940 + j) (nI z)) (3950 + j) 0), ?_, ?_, inv_one hI0 (j := j) (by omega) (fun q hq => ?_) ⟨2, by decide, ?_, ?_, fun z => absurd z (by decide), fun _ => ⟨⟨z, hz, ?_, ?_⟩, fun k hk => ?_⟩, fun z => absurd z (by decide)⟩⟩
              · unfold f_X8_lay f_X8_lay_35 f_X8_lay_50 f_X8_lay_70
                simp only [cslot_ev, bz_t hA, doI_some, doV_some, seqM_eq, chk_t, show ¬ (1 : Int32) = 0 by decide, if_false, within_ev, bz_t hB, if_true, show ¬ (2 : Int32) = 1 by decide, csheet_ev, bz_t hV, i4, c4, cmiss_ev, bz_f hM, i5, cj, c1, e1]
              · unfold f_X9_lay f_X9_lay_29 f_X9_lay_44 f_X9_lay_61 f_X9_lay_110 f_X9_lay_130
                simp only [mslot_ev, bz_t hA, doI_some, doV_some, seqM_eq, chk_t, show ¬ (1 : Int32) = 0 by decide, if_false, in_ev, bz_t hB, if_true, show ¬ (2 : Int32) = 1 by decide, msheet_ev, bz_t hV, i4, c4, m3810, hM, not_false_eq_true, i5, cj, m3930, m3820, L]
              · unfold ofSlot at hq
                rw [lay_out (by omega), pk_un (by omega), pk_un (by omega), pk_un (by omega), w q (by unfold ofSlot; omega)]
              · unfold lf
                rw [lay_out (by omega), pk_un (by omega), pk_un (by omega), pk_un (by omega), e4 _ (by omega)]
                exact pk_us
              · rw [lay_out (by omega), pk_un (by omega), pk_un (by omega), pk_us]; rfl
              · rw [lay_out (by unfold hf; omega), pk_un (by unfold hf; omega), pk_un (by unfold hf; omega), pk_un (by unfold hf; omega), e2, pk_un (by unfold hf lf; omega), hS.csz]
              · rw [lay_out (by omega), pk_un (by omega), pk_us]
              · rw [lay_in hk, lay_out (by omega), pk_un (by omega), pk_un (by omega), pk_un (by omega), pk_un (by omega), pk_un (by omega), pk_un (by omega), e3 k hk, e4 _ (by omega), pk_un (by unfold lf; omega), pk_un (by unfold lf; omega), hS.cell k hk]
          · refine op_pure hI0 (-1000000001) ?_ ?_
            · unfold f_X8_lay f_X8_lay_35
              simp only [cslot_ev, bz_t hA, doI_some, doV_some, seqM_eq, chk_t, show ¬ (1 : Int32) = 0 by decide, if_false, within_ev, bz_t hB, if_true, show ¬ (2 : Int32) = 1 by decide, csheet_ev, bz_f hV]
            · unfold f_X9_lay f_X9_lay_29
              simp only [mslot_ev, bz_t hA, doI_some, doV_some, seqM_eq, chk_t, show ¬ (1 : Int32) = 0 by decide, if_false, in_ev, bz_t hB, if_true, show ¬ (2 : Int32) = 1 by decide, msheet_ev, bz_f hV]
        · have n1 : ¬ nI p = 1 := by rw [ep1]; exact p1
          have n2 : ¬ nI p = 2 := by rw [ep2]; exact p2
          refine ⟨nI h, upd (upd m (lf j 0) (nI p)) (lf j 1) x3, upd (upd (upd (upd (upd m (lf j 0) (nI p)) (lf j 1) x3) (3930 + j) (nI p)) (3940 + j) x3) (3950 + j) 0, ?_, ?_, inv_one hI0 (j := j) (by omega) (fun q hq => ?_) ⟨p, by omega, ?_, ?_, fun z => absurd z p1, fun z => absurd z p2, fun _ => ?_⟩⟩
          · unfold f_X8_lay f_X8_lay_35 f_X8_lay_50 f_X8_lay_70
            simp only [cslot_ev, bz_t hA, doI_some, doV_some, seqM_eq, chk_t, show ¬ (1 : Int32) = 0 by decide, if_false, within_ev, bz_t hB, n1, n2, i5, cj, c1]
          · have m3930 : (upd (upd m (lf j 0) (nI p)) (lf j 1) x3) (3930 + j) = nI h := by rw [pk_un (by unfold lf; omega), pk_un (by unfold lf; omega), c2]
            unfold f_X9_lay f_X9_lay_29 f_X9_lay_44 f_X9_lay_61 f_X9_lay_110 f_X9_lay_130
            simp only [mslot_ev, bz_t hA, doI_some, doV_some, seqM_eq, chk_t, show ¬ (1 : Int32) = 0 by decide, if_false, in_ev, bz_t hB, n1, n2, i5, cj, m3930, mlay_0 (show 1 < fu by omega) n2]
          · unfold ofSlot at hq
            unfold lf
            rw [pk_un (by omega), pk_un (by omega), pk_un (by omega), pk_un (by omega), pk_un (by omega)]
          · unfold lf
            rw [pk_un (by omega), pk_un (by omega), pk_un (by omega), pk_un (by omega), pk_us]
          · rw [pk_un (by omega), pk_un (by omega), pk_us]
          · unfold lf
            rw [pk_un (by omega), pk_us, pk_un (by omega), pk_un (by omega), pk_un (by omega), pk_us]
    · refine op_pure hI0 (-1000000001) ?_ ?_
      · unfold f_X8_lay
        simp only [cslot_ev, bz_t hA, doI_some, doV_some, seqM_eq, chk_t, show ¬ (1 : Int32) = 0 by decide, if_false, within_ev, bz_f hB, if_true]
      · unfold f_X9_lay
        simp only [mslot_ev, bz_t hA, doI_some, doV_some, seqM_eq, chk_t, show ¬ (1 : Int32) = 0 by decide, if_false, in_ev, bz_f hB, if_true]
  · refine op_pure hI0 (-1000000001) ?_ ?_
    · unfold f_X8_lay
      simp only [cslot_ev, bz_f hA, doI_some, doV_some, seqM_eq, chk_t, if_true]
    · unfold f_X9_lay
      simp only [mslot_ev, bz_f hA, doI_some, doV_some, seqM_eq, chk_t, if_true]
end LAY
