/-! PURE: acts on the row -/
theorem fr_nil {L : List (Nat × Nat)} {m : Mem} : Fr L m m := fun _ _ => rfl
abbrev isVp (n : Nat) (x : Int32) : Prop := ¬ x < 0 ∧ ¬ nI n ≤ x
theorem isVp_of {n : Nat} {x : Int32} (hn : n ≤ 5) (h : isVp n x) : ∃ v, v < n ∧ x = nI v := by
  rcases pk_ix x (n := n) (by omega) with q | q | q
  · exact absurd q h.1
  · exact absurd q h.2
  · exact q
theorem inR_nI {x : Int32} {a b : Nat} (hb : b < 2 ^ 31) (ha : a < 2 ^ 31) (h : inR x (nI a) (nI b)) : ∃ k, a ≤ k ∧ k ≤ b ∧ x = nI k := by
  have i1 : ¬ x.toInt < (nI a).toInt := fun z => h.1 (Int32.lt_iff_toInt_lt.mpr z)
  have i2 : ¬ (nI b).toInt < x.toInt := fun z => h.2 (Int32.lt_iff_toInt_lt.mpr z)
  rw [nI_toInt ha] at i1
  rw [nI_toInt hb] at i2
  refine ⟨x.toInt.toNat, by omega, by omega, ?_⟩
  apply Int32.toInt_inj.mp
  rw [nI_toInt (by omega)]
  omega
section OPA
variable {fu n N v : Nat} {σ : Row} {m : Mem} {X : TxS} {x x1 x2 x3 : Int32}
theorem rr_same {fX fM : Mem → Option (Int32 × Mem)} {r : Int32} (hk : ROK 9999 n σ) (hw : WOK n σ) (h1 : fX (lay (70 * 0) 54 σ m) = some (r, lay (70 * 0) 54 σ m)) (h2 : ∀ τ, Lv n σ τ → ∀ m0, fM (lay 4000 51 τ m0) = some (r, lay 4000 51 τ m0)) : RowRes fX fM m X N n σ :=
  ⟨r, n, σ, hk, hw, rfl, fun _ _ => rfl, ⟨m, fr_nil, h1⟩, fun τ hτ m0 _ => ⟨τ, m0, hτ, fr_nil, h2 τ hτ m0⟩⟩
theorem chas_ev (h1 : σ 1 = nI n) : f_X4_has fu 0 x (lay (70 * 0) 54 σ m) = some (bz (isVp n x), lay (70 * 0) 54 σ m) := by
  unfold f_X4_has
  rw [lc_get (by decide), h1]
  by_cases a : x < 0
  · rw [if_pos a, bz_f (fun z => z.1 a)]
  · rw [if_neg a]
    by_cases b : nI n ≤ x
    · rw [if_pos b, bz_f (fun z => z.2 b)]
    · rw [if_neg b, bz_t ⟨a, b⟩]
theorem misV_ev (hn : n ≤ 5) (h1 : σ 1 = nI n) : f_X9_isVoice fu x (lay 4000 51 σ m) = some (bz (isVp n x), lay 4000 51 σ m) := by
  unfold f_X9_isVoice
  simp only [Nat.reduceMul, Nat.reduceAdd, Int32.reduceToNatClampNeg, lm_1, h1, in_ev, doI_some, doV_some, seqM_eq, chk_t, bz0, bz1, isB_bz, isB_0, isB_1]
  have e : inR x 0 (nI n - 1) ↔ isVp n x := by
    have hs : (nI n - 1).toInt = (n : Int) - 1 := by rw [show (1 : Int32) = nI 1 from rfl]; exact pk_sub_toInt (by omega) (by decide)
    have hi : (nI n).toInt = (n : Int) := nI_toInt (by omega)
    refine and_congr Iff.rfl (not_congr ?_)
    rw [Int32.lt_iff_toInt_lt, Int32.le_iff_toInt_le, hs, hi]
    omega
  by_cases h : isVp n x
  · rw [bz_t h, bz_t (e.mpr h)]
  · rw [bz_f h, bz_f (fun z => h (e.mp z))]
theorem swaps_ev {q : Nat} (hq : q < 51) : f_X9_swaps fu (nI q) x (lay 4000 51 σ m) = some (σ q, lay 4000 51 (upd σ q x) m) := by
  unfold f_X9_swaps
  rw [inb_nI (by omega) (by decide)]
  simp only [doI_some, doV_some, seqM_eq, chk_t]
  rw [nI_clamp (by omega), show 4000 + 1500 * 0 + q = 4000 + q from rfl, lay_in hq, lay_upd hq]
theorem ROK.upd_low {q : Nat} {y : Int32} (h : ROK 9999 n σ) (hq : q < 16) (h1 : q ≠ 1) (h2 : q ≠ 2) (h5 : q ≠ 5) (h6 : q ≠ 6) (h8 : q ≠ 8) (h12 : q ≠ 12) : ROK 9999 n (upd σ q y) := by
  obtain ⟨a, b, c, d⟩ := h
  refine ⟨by rw [pk_un (Ne.symm h1)]; exact a, b, fun w hw => (c w hw).congr (fun j _ => pk_un (by have := @ps_ge w j; omega)), ?_⟩
  unfold SCA
  rw [pk_un (Ne.symm h5), pk_un (Ne.symm h2), pk_un (Ne.symm h6), pk_un (Ne.symm h8), pk_un (Ne.symm h12)]
  exact d
theorem ROK.upd_v {j : Nat} {y : Int32} (hv : v < n) (h : ROK 9999 n σ) (hj : j < 7) (hok : VOK (upd σ (ps v j) y) v) : ROK 9999 n (upd σ (ps v j) y) := by
  obtain ⟨a, b, c, d⟩ := h
  have hp := @ps_ge v j
  refine ⟨by rw [pk_un (by omega)]; exact a, b, fun w hw => ?_, ?_⟩
  · by_cases e : w = v
    · subst e; exact hok
    · exact (c w hw).congr (fun i hi => pk_un (fun z => e (ps_inj (by omega) hj z).1))
  · unfold SCA
    rw [pk_un (show 5 ≠ ps v j by omega), pk_un (show 2 ≠ ps v j by omega), pk_un (show 6 ≠ ps v j by omega), pk_un (show 8 ≠ ps v j by omega), pk_un (show 12 ≠ ps v j by omega)]
    exact d
theorem WOK.upd_o {q : Nat} {y : Int32} (h : WOK n σ) (hq : ∀ w, w < n → q ≠ ps w 1) : WOK n (upd σ q y) := fun w hw => by
  rw [pk_un (Ne.symm (hq w hw))]; exact h w hw
theorem WOK.low {q : Nat} {y : Int32} (h : WOK n σ) (hq : q < 16) : WOK n (upd σ q y) := h.upd_o (fun w _ => by have := @ps_ge w 1; omega)
theorem isKind_ev {y : Int32} : f_X8_isKind fu y m = some (bz (inR y 0 5), m) := by
  unfold f_X8_isKind
  simp only [within_ev, doI_some, doV_some, seqM_eq, chk_t, bz0, bz1, isB_bz, isB_0, isB_1]
theorem cisOf_ev (hv : v < 5) : ∀ y : Int32, f_X7_isOf fu (10 * 0 + v) y (lay (70 * 0) 54 σ m) = some ((if σ (ps v 0) = y then 1 else if (if σ (ps v 0) = 3 then (1 : Int32) else if σ (ps v 0) = 4 then 2 else 0) = y then 1 else if y = 0 then 1 else 0), lay (70 * 0) 54 σ m) := by
  intro y
  unfold f_X7_isOf f_X7_aboveHer f_X7_isOf_20
  simp only [lc_vget hv (show 0 < 7 by decide), doI_some, doV_some, seqM_eq, chk_t, some_ite]
theorem isUnder_eq : ∀ k, k < 6 → ∀ y, y < 6 → (if nI k = nI y then (1 : Int32) else if (if nI k = 3 then (1 : Int32) else if nI k = 4 then 2 else 0) = nI y then 1 else if nI y = 0 then 1 else 0) = (if nI y = 0 then 1 else if nI k = nI y then 1 else if nI y = 1 then (if nI k = 3 then 1 else if nI y = 2 then (if nI k = 4 then 1 else 0) else 0) else if nI y = 2 then (if nI k = 4 then 1 else 0) else 0) := by decide +kernel
theorem misUnder_ev {k y : Int32} : f_X9_isUnder fu k y m = some ((if y = 0 then 1 else if k = y then 1 else if y = 1 then (if k = 3 then 1 else if y = 2 then (if k = 4 then 1 else 0) else 0) else if y = 2 then (if k = 4 then 1 else 0) else 0), m) := by
  unfold f_X9_isUnder f_X9_isUnder_19 f_X9_isUnder_29
  simp only [some_ite]
theorem worth_eq : ∀ k, k < 6 → ∀ t, t < 61 → (if nI k = 1 then nI t + 9 else if nI k = 2 then 99 - nI t else if nI k = 3 then 2 * (nI t + 9) else if nI k = 4 then (99 - nI t) - 7 else if nI k = 5 then 3 else nI t) = worthP (nI k) (nI t) := by decide +kernel
theorem cworth_ev' (hv : v < 5) (hok : VOK σ v) : f_X7_worth fu (10 * 0 + v) (lay (70 * 0) 54 σ m) = some (worthS σ v, lay (70 * 0) 54 σ m) := by
  obtain ⟨⟨k, hk, ek⟩, -, ⟨t, t1, t2, et⟩, -⟩ := hok
  unfold f_X7_worth worthS
  simp only [doI_some, doV_some, seqM_eq, chk_t, lc_vget hv (show 0 < 7 by decide), lc_vget hv (show 2 < 7 by decide), some_ite, ek, et]
  rw [worth_eq k hk t (by omega)]
theorem ix_ps0 : 16 + 7 * nI v = nI (ps v 0) := by
  rw [show (16 : Int32) = nI 16 from rfl, show (7 : Int32) = nI 7 from rfl, pk_mul, nI_add]
  rfl
theorem op_told (hf : 96 < fu) (hI : Inv m) : Op (f_X8_told fu x1 x2) (f_X9_told fu x1 x2) m := by
  refine op_row hI (fun n N σ X hc ht hk hw => ?_)
  have h1 := hk.1
  have hn := hk.2.1
  by_cases hv : isVp n x1
  · obtain ⟨v, hvn, rfl⟩ := isVp_of hn hv
    have hv5 : v < 5 := by omega
    have hok := hk.2.2.1 v hvn
    by_cases h0 : x2 = 0
    · subst h0
      refine rr_same (r := σ (ps v 0)) hk hw ?_ (fun τ hτ m0 => ?_)
      · unfold f_X8_told
        simp only [chas_ev h1, bz_t hv, doI_some, doV_some, seqM_eq, chk_t, inb_nI hv5 (show 5 < 2 ^ 31 by decide), nI_clamp (show v < 2 ^ 31 by omega), show ¬ (1 : Int32) = 0 by decide, if_false, if_true, lc_vget hv5 (show 0 < 7 by decide)]
      · unfold f_X9_told f_X9_told_72
        simp only [misV_ev hn ((hτ.l (by decide)).trans h1), bz_t hv, doI_some, doV_some, seqM_eq, chk_t, show ¬ (1 : Int32) = 0 by decide, if_false, if_true, of_0 hv5, hτ.f hvn (show 0 < 7 by decide)]
    by_cases h1' : x2 = 1
    · subst h1'
      refine rr_same (r := σ (ps v 1)) hk hw ?_ (fun τ hτ m0 => ?_)
      · unfold f_X8_told
        simp only [chas_ev h1, bz_t hv, doI_some, doV_some, seqM_eq, chk_t, inb_nI hv5 (show 5 < 2 ^ 31 by decide), nI_clamp (show v < 2 ^ 31 by omega), show ¬ (1 : Int32) = 0 by decide, if_false, if_true, lc_vget hv5 (show 1 < 7 by decide), show ¬ (1 : Int32) = 0 by decide]
      · unfold f_X9_told f_X9_told_72
        simp only [misV_ev hn ((hτ.l (by decide)).trans h1), bz_t hv, doI_some, doV_some, seqM_eq, chk_t, show ¬ (1 : Int32) = 0 by decide, if_false, if_true, of_1 hv5, hτ.f hvn (show 1 < 7 by decide), show ¬ (1 : Int32) = 0 by decide]
    by_cases h2 : x2 = 2
    · subst h2
      refine rr_same (r := σ (ps v 2)) hk hw ?_ (fun τ hτ m0 => ?_)
      · unfold f_X8_told
        simp only [chas_ev h1, bz_t hv, doI_some, doV_some, seqM_eq, chk_t, inb_nI hv5 (show 5 < 2 ^ 31 by decide), nI_clamp (show v < 2 ^ 31 by omega), show ¬ (1 : Int32) = 0 by decide, if_false, if_true, lc_vget hv5 (show 2 < 7 by decide), show ¬ (2 : Int32) = 0 by decide, show ¬ (2 : Int32) = 1 by decide]
      · unfold f_X9_told f_X9_told_72
        simp only [misV_ev hn ((hτ.l (by decide)).trans h1), bz_t hv, doI_some, doV_some, seqM_eq, chk_t, show ¬ (1 : Int32) = 0 by decide, if_false, if_true, of_2 hv5, hτ.f hvn (show 2 < 7 by decide), show ¬ (2 : Int32) = 0 by decide, show ¬ (2 : Int32) = 1 by decide]
    by_cases h3 : x2 = 3
    · subst h3
      refine rr_same (r := σ (ps v 3)) hk hw ?_ (fun τ hτ m0 => ?_)
      · unfold f_X8_told
        simp only [chas_ev h1, bz_t hv, doI_some, doV_some, seqM_eq, chk_t, inb_nI hv5 (show 5 < 2 ^ 31 by decide), nI_clamp (show v < 2 ^ 31 by omega), show ¬ (1 : Int32) = 0 by decide, if_false, if_true, lc_vget hv5 (show 3 < 7 by decide), show ¬ (3 : Int32) = 0 by decide, show ¬ (3 : Int32) = 1 by decide, show ¬ (3 : Int32) = 2 by decide]
      · unfold f_X9_told f_X9_told_72
        simp only [misV_ev hn ((hτ.l (by decide)).trans h1), bz_t hv, doI_some, doV_some, seqM_eq, chk_t, show ¬ (1 : Int32) = 0 by decide, if_false, if_true, of_3 hv5, hτ.f hvn (show 3 < 7 by decide), show ¬ (3 : Int32) = 0 by decide, show ¬ (3 : Int32) = 1 by decide, show ¬ (3 : Int32) = 2 by decide]
    by_cases h4 : x2 = 4
    · subst h4
      refine rr_same (r := σ (ps v 4)) hk hw ?_ (fun τ hτ m0 => ?_)
      · unfold f_X8_told
        simp only [chas_ev h1, bz_t hv, doI_some, doV_some, seqM_eq, chk_t, inb_nI hv5 (show 5 < 2 ^ 31 by decide), nI_clamp (show v < 2 ^ 31 by omega), show ¬ (1 : Int32) = 0 by decide, if_false, if_true, lc_vget hv5 (show 4 < 7 by decide), show ¬ (4 : Int32) = 0 by decide, show ¬ (4 : Int32) = 1 by decide, show ¬ (4 : Int32) = 2 by decide, show ¬ (4 : Int32) = 3 by decide]
      · unfold f_X9_told f_X9_told_72
        simp only [misV_ev hn ((hτ.l (by decide)).trans h1), bz_t hv, doI_some, doV_some, seqM_eq, chk_t, show ¬ (1 : Int32) = 0 by decide, if_false, if_true, of_4 hv5, hτ.f hvn (show 4 < 7 by decide), show ¬ (4 : Int32) = 0 by decide, show ¬ (4 : Int32) = 1 by decide, show ¬ (4 : Int32) = 2 by decide, show ¬ (4 : Int32) = 3 by decide]
    by_cases h5 : x2 = 5
    · subst h5
      refine rr_same (r := σ (ps v 5)) hk hw ?_ (fun τ hτ m0 => ?_)
      · unfold f_X8_told
        simp only [chas_ev h1, bz_t hv, doI_some, doV_some, seqM_eq, chk_t, inb_nI hv5 (show 5 < 2 ^ 31 by decide), nI_clamp (show v < 2 ^ 31 by omega), show ¬ (1 : Int32) = 0 by decide, if_false, if_true, lc_vget hv5 (show 5 < 7 by decide), show ¬ (5 : Int32) = 0 by decide, show ¬ (5 : Int32) = 1 by decide, show ¬ (5 : Int32) = 2 by decide, show ¬ (5 : Int32) = 3 by decide, show ¬ (5 : Int32) = 4 by decide]
      · unfold f_X9_told f_X9_told_72
        simp only [misV_ev hn ((hτ.l (by decide)).trans h1), bz_t hv, doI_some, doV_some, seqM_eq, chk_t, show ¬ (1 : Int32) = 0 by decide, if_false, if_true, of_5 hv5, hτ.f hvn (show 5 < 7 by decide), show ¬ (5 : Int32) = 0 by decide, show ¬ (5 : Int32) = 1 by decide, show ¬ (5 : Int32) = 2 by decide, show ¬ (5 : Int32) = 3 by decide, show ¬ (5 : Int32) = 4 by decide]
    by_cases h6 : x2 = 6
    · subst h6
      refine rr_same (r := σ (ps v 6)) hk hw ?_ (fun τ hτ m0 => ?_)
      · unfold f_X8_told
        simp only [chas_ev h1, bz_t hv, doI_some, doV_some, seqM_eq, chk_t, inb_nI hv5 (show 5 < 2 ^ 31 by decide), nI_clamp (show v < 2 ^ 31 by omega), show ¬ (1 : Int32) = 0 by decide, if_false, if_true, lc_vget hv5 (show 6 < 7 by decide), show ¬ (6 : Int32) = 0 by decide, show ¬ (6 : Int32) = 1 by decide, show ¬ (6 : Int32) = 2 by decide, show ¬ (6 : Int32) = 3 by decide, show ¬ (6 : Int32) = 4 by decide, show ¬ (6 : Int32) = 5 by decide]
      · unfold f_X9_told f_X9_told_72
        simp only [misV_ev hn ((hτ.l (by decide)).trans h1), bz_t hv, doI_some, doV_some, seqM_eq, chk_t, show ¬ (1 : Int32) = 0 by decide, if_false, if_true, of_6 hv5, hτ.f hvn (show 6 < 7 by decide), show ¬ (6 : Int32) = 0 by decide, show ¬ (6 : Int32) = 1 by decide, show ¬ (6 : Int32) = 2 by decide, show ¬ (6 : Int32) = 3 by decide, show ¬ (6 : Int32) = 4 by decide, show ¬ (6 : Int32) = 5 by decide]
    by_cases h7 : x2 = 7
    · subst h7
      refine rr_same (r := waitsS σ v) hk hw ?_ (fun τ hτ m0 => ?_)
      · unfold f_X8_told
        simp only [chas_ev h1, bz_t hv, doI_some, doV_some, seqM_eq, chk_t, inb_nI hv5 (show 5 < 2 ^ 31 by decide), nI_clamp (show v < 2 ^ 31 by omega), show ¬ (1 : Int32) = 0 by decide, if_false, if_true, f_X8_told_136, lc_get (show 14 < 54 by decide), show ¬ (7 : Int32) = 0 by decide, show ¬ (7 : Int32) = 1 by decide, show ¬ (7 : Int32) = 2 by decide, show ¬ (7 : Int32) = 3 by decide, show ¬ (7 : Int32) = 4 by decide, show ¬ (7 : Int32) = 5 by decide, show ¬ (7 : Int32) = 6 by decide]
        by_cases h14 : nI v = σ 14
        · simp only [if_pos h14, cwaits_ev (b := 1) hv5 hok ⟨fun z => absurd z (by decide), fun z => absurd h14.symm z⟩, doI_some, doV_some, seqM_eq, chk_t]
        · simp only [if_neg h14, cwaits_ev (b := 0) hv5 hok ⟨fun _ z => h14 z.symm, fun _ => rfl⟩, doI_some, doV_some, seqM_eq, chk_t]
      · unfold f_X9_told
        simp only [misV_ev hn ((hτ.l (by decide)).trans h1), bz_t hv, doI_some, doV_some, seqM_eq, chk_t, show ¬ (1 : Int32) = 0 by decide, if_false, if_true, mwaits_ev hv5, hτ.waits hvn, show ¬ (7 : Int32) = 0 by decide, show ¬ (7 : Int32) = 1 by decide, show ¬ (7 : Int32) = 2 by decide, show ¬ (7 : Int32) = 3 by decide, show ¬ (7 : Int32) = 4 by decide, show ¬ (7 : Int32) = 5 by decide, show ¬ (7 : Int32) = 6 by decide]
    by_cases h8 : x2 = 8
    · subst h8
      refine rr_same (r := talksS σ v) hk hw ?_ (fun τ hτ m0 => ?_)
      · unfold f_X8_told
        simp only [chas_ev h1, bz_t hv, doI_some, doV_some, seqM_eq, chk_t, inb_nI hv5 (show 5 < 2 ^ 31 by decide), nI_clamp (show v < 2 ^ 31 by omega), show ¬ (1 : Int32) = 0 by decide, if_false, if_true, ctalks_ev hv5, show ¬ (8 : Int32) = 0 by decide, show ¬ (8 : Int32) = 1 by decide, show ¬ (8 : Int32) = 2 by decide, show ¬ (8 : Int32) = 3 by decide, show ¬ (8 : Int32) = 4 by decide, show ¬ (8 : Int32) = 5 by decide, show ¬ (8 : Int32) = 6 by decide, show ¬ (8 : Int32) = 7 by decide]
      · unfold f_X9_told
        simp only [misV_ev hn ((hτ.l (by decide)).trans h1), bz_t hv, doI_some, doV_some, seqM_eq, chk_t, show ¬ (1 : Int32) = 0 by decide, if_false, if_true, mtalks_ev hv5, hτ.talks hvn, show ¬ (8 : Int32) = 0 by decide, show ¬ (8 : Int32) = 1 by decide, show ¬ (8 : Int32) = 2 by decide, show ¬ (8 : Int32) = 3 by decide, show ¬ (8 : Int32) = 4 by decide, show ¬ (8 : Int32) = 5 by decide, show ¬ (8 : Int32) = 6 by decide, show ¬ (8 : Int32) = 7 by decide]
    by_cases h9 : x2 = 9
    · subst h9
      refine rr_same (r := bz (yieldsP (σ (ps v 0)))) hk hw ?_ (fun τ hτ m0 => ?_)
      · unfold f_X8_told
        simp only [chas_ev h1, bz_t hv, doI_some, doV_some, seqM_eq, chk_t, inb_nI hv5 (show 5 < 2 ^ 31 by decide), nI_clamp (show v < 2 ^ 31 by omega), show ¬ (1 : Int32) = 0 by decide, if_false, if_true, cyields_ev hv5, show ¬ (9 : Int32) = 0 by decide, show ¬ (9 : Int32) = 1 by decide, show ¬ (9 : Int32) = 2 by decide, show ¬ (9 : Int32) = 3 by decide, show ¬ (9 : Int32) = 4 by decide, show ¬ (9 : Int32) = 5 by decide, show ¬ (9 : Int32) = 6 by decide, show ¬ (9 : Int32) = 7 by decide, show ¬ (9 : Int32) = 8 by decide, some_ite, bz0]
        by_cases hy : yieldsP (σ (ps v 0))
        · rw [bz_t hy, if_neg (fun z => z hy)]
        · rw [bz_f hy, if_pos hy]
      · unfold f_X9_told
        have my := myield_ev (fu := fu) (σ := τ) (m := m0) hv5
        rw [hτ.f hvn (show 0 < 7 by decide)] at my
        simp only [misV_ev hn ((hτ.l (by decide)).trans h1), bz_t hv, doI_some, doV_some, seqM_eq, chk_t, show ¬ (1 : Int32) = 0 by decide, if_false, if_true, my, show ¬ (9 : Int32) = 0 by decide, show ¬ (9 : Int32) = 1 by decide, show ¬ (9 : Int32) = 2 by decide, show ¬ (9 : Int32) = 3 by decide, show ¬ (9 : Int32) = 4 by decide, show ¬ (9 : Int32) = 5 by decide, show ¬ (9 : Int32) = 6 by decide, show ¬ (9 : Int32) = 7 by decide, show ¬ (9 : Int32) = 8 by decide, some_ite, bz0]
        by_cases hy : yieldsP (σ (ps v 0))
        · rw [bz_t hy, if_neg (fun z => z hy)]
        · rw [bz_f hy, if_pos hy]
    by_cases h10 : x2 = 10
    · subst h10
      refine rr_same (r := worthS σ v) hk hw ?_ (fun τ hτ m0 => ?_)
      · unfold f_X8_told
        simp only [chas_ev h1, bz_t hv, doI_some, doV_some, seqM_eq, chk_t, inb_nI hv5 (show 5 < 2 ^ 31 by decide), nI_clamp (show v < 2 ^ 31 by omega), show ¬ (1 : Int32) = 0 by decide, if_false, if_true, cworth_ev' hv5 hok, show ¬ (10 : Int32) = 0 by decide, show ¬ (10 : Int32) = 1 by decide, show ¬ (10 : Int32) = 2 by decide, show ¬ (10 : Int32) = 3 by decide, show ¬ (10 : Int32) = 4 by decide, show ¬ (10 : Int32) = 5 by decide, show ¬ (10 : Int32) = 6 by decide, show ¬ (10 : Int32) = 7 by decide, show ¬ (10 : Int32) = 8 by decide, show ¬ (10 : Int32) = 9 by decide]
      · unfold f_X9_told
        simp only [misV_ev hn ((hτ.l (by decide)).trans h1), bz_t hv, doI_some, doV_some, seqM_eq, chk_t, show ¬ (1 : Int32) = 0 by decide, if_false, if_true, mworth_ev hv5, hτ.worth hvn, show ¬ (10 : Int32) = 0 by decide, show ¬ (10 : Int32) = 1 by decide, show ¬ (10 : Int32) = 2 by decide, show ¬ (10 : Int32) = 3 by decide, show ¬ (10 : Int32) = 4 by decide, show ¬ (10 : Int32) = 5 by decide, show ¬ (10 : Int32) = 6 by decide, show ¬ (10 : Int32) = 7 by decide, show ¬ (10 : Int32) = 8 by decide, show ¬ (10 : Int32) = 9 by decide]
    · refine rr_same (r := -1000000001) hk hw ?_ (fun τ hτ m0 => ?_)
      · unfold f_X8_told
        simp only [chas_ev h1, bz_t hv, doI_some, doV_some, seqM_eq, chk_t, inb_nI hv5 (show 5 < 2 ^ 31 by decide), nI_clamp (show v < 2 ^ 31 by omega), show ¬ (1 : Int32) = 0 by decide, if_false, if_true, h0, h1', h2, h3, h4, h5, h6, h7, h8, h9, h10]
      · unfold f_X9_told
        simp only [misV_ev hn ((hτ.l (by decide)).trans h1), bz_t hv, doI_some, doV_some, seqM_eq, chk_t, show ¬ (1 : Int32) = 0 by decide, if_false, if_true, h0, h1', h2, h3, h4, h5, h6, h7, h8, h9, h10]
  · refine rr_same (r := -1000000001) hk hw ?_ (fun τ hτ m0 => ?_)
    · unfold f_X8_told
      simp only [chas_ev h1, bz_f hv, doI_some, doV_some, seqM_eq, chk_t, if_true]
    · unfold f_X9_told
      simp only [misV_ev hn ((hτ.l (by decide)).trans h1), bz_f hv, doI_some, doV_some, seqM_eq, chk_t, if_true]
theorem op_as (hf : 96 < fu) (hI : Inv m) : Op (f_X8_as fu x1 x2) (f_X9_as fu x1 x2) m := by
  refine op_row hI (fun n N σ X hc ht hk hw => ?_)
  have h1 := hk.1
  have hn := hk.2.1
  by_cases hv : isVp n x1
  · obtain ⟨v, hvn, rfl⟩ := isVp_of hn hv
    have hv5 : v < 5 := by omega
    obtain ⟨⟨k, hk6, ek⟩, -⟩ := hk.2.2.1 v hvn
    by_cases hR : inR x2 0 5
    · obtain ⟨y, -, hy5, rfl⟩ := inR_nI (a := 0) (b := 5) (by decide) (by decide) hR
      have hu := isUnder_eq k hk6 y (by omega)
      refine rr_same (r := if (if nI y = 0 then (1 : Int32) else if nI k = nI y then 1 else if nI y = 1 then (if nI k = 3 then 1 else if nI y = 2 then (if nI k = 4 then 1 else 0) else 0) else if nI y = 2 then (if nI k = 4 then 1 else 0) else 0) = 0 then -1000000012 else σ (ps v 1)) hk hw ?_ (fun τ hτ m0 => ?_)
      · unfold f_X8_as
        simp only [chas_ev h1, bz_t hv, doI_some, doV_some, seqM_eq, chk_t, inb_nI hv5 (show 5 < 2 ^ 31 by decide), nI_clamp (show v < 2 ^ 31 by omega), show ¬ (1 : Int32) = 0 by decide, if_false, if_true, isKind_ev, bz_t hR, cisOf_ev hv5, lc_vget hv5 (show 1 < 7 by decide), ek, hu, some_ite]
      · unfold f_X9_as
        simp only [misV_ev hn ((hτ.l (by decide)).trans h1), bz_t hv, doI_some, doV_some, seqM_eq, chk_t, show ¬ (1 : Int32) = 0 by decide, if_false, if_true, in_ev, bz_t hR, of_0 hv5, hτ.f hvn (show 0 < 7 by decide), of_1 hv5, hτ.f hvn (show 1 < 7 by decide), misUnder_ev, ek, some_ite]
    · refine rr_same (r := -1000000001) hk hw ?_ (fun τ hτ m0 => ?_)
      · unfold f_X8_as
        simp only [chas_ev h1, bz_t hv, doI_some, doV_some, seqM_eq, chk_t, inb_nI hv5 (show 5 < 2 ^ 31 by decide), nI_clamp (show v < 2 ^ 31 by omega), show ¬ (1 : Int32) = 0 by decide, if_false, if_true, isKind_ev, bz_f hR]
      · unfold f_X9_as
        simp only [misV_ev hn ((hτ.l (by decide)).trans h1), bz_t hv, doI_some, doV_some, seqM_eq, chk_t, show ¬ (1 : Int32) = 0 by decide, if_false, if_true, in_ev, bz_f hR]
  · refine rr_same (r := -1000000001) hk hw ?_ (fun τ hτ m0 => ?_)
    · unfold f_X8_as
      simp only [chas_ev h1, bz_f hv, doI_some, doV_some, seqM_eq, chk_t, if_true]
    · unfold f_X9_as
      simp only [misV_ev hn ((hτ.l (by decide)).trans h1), bz_f hv, doI_some, doV_some, seqM_eq, chk_t, if_true]
theorem op_turns (hf : 96 < fu) (hI : Inv m) : Op (f_X8_turns fu x1 x2) (f_X9_turns fu x1 x2) m := by
  refine op_row hI (fun n N σ X hc ht hk hw => ?_)
  have h1 := hk.1
  have hn := hk.2.1
  by_cases hv : isVp n x1
  · obtain ⟨v, hvn, rfl⟩ := isVp_of hn hv
    have hv5 : v < 5 := by omega
    have hok := hk.2.2.1 v hvn
    by_cases hR : inR x2 0 5
    · obtain ⟨y, -, hy5, rfl⟩ := inR_nI (a := 0) (b := 5) (by decide) (by decide) hR
      refine ⟨σ (ps v 0), n, upd σ (ps v 0) (nI y), hk.upd_v hvn (by decide) ?_, hw.upd_o (fun w _ => ps_ne (by decide) (by decide) (by decide)), pk_un (by have := @ps_ge v 0; omega), fun key _ => pk_un (by unfold ps; omega), ⟨m, fr_nil, ?_⟩, fun τ hτ m0 _ => ⟨upd τ (ps v 0) (nI y), m0, hτ.up, fr_nil, ?_⟩⟩
      · obtain ⟨-, a1, a2, a3, a4, a5⟩ := hok
        unfold VOK
        rw [pk_us, pk_un (ps_ne (j := 1) (k := 0) (by decide) (by decide) (by decide)), pk_un (ps_ne (j := 2) (k := 0) (by decide) (by decide) (by decide)), pk_un (ps_ne (j := 3) (k := 0) (by decide) (by decide) (by decide)), pk_un (ps_ne (j := 4) (k := 0) (by decide) (by decide) (by decide)), pk_un (ps_ne (j := 5) (k := 0) (by decide) (by decide) (by decide))]
        exact ⟨⟨y, by omega, rfl⟩, a1, a2, a3, a4, a5⟩
      · unfold f_X8_turns
        simp only [chas_ev h1, bz_t hv, doI_some, doV_some, seqM_eq, chk_t, inb_nI hv5 (show 5 < 2 ^ 31 by decide), nI_clamp (show v < 2 ^ 31 by omega), show ¬ (1 : Int32) = 0 by decide, if_false, if_true, isKind_ev, bz_t hR, lc_vget hv5 (show 0 < 7 by decide), lc_vupd hv5 (show 0 < 7 by decide)]
      · unfold f_X9_turns
        have e : 16 + 7 * nI v = nI (ps v 0) := ix_ps0
        simp only [misV_ev hn ((hτ.l (by decide)).trans h1), bz_t hv, doI_some, doV_some, seqM_eq, chk_t, show ¬ (1 : Int32) = 0 by decide, if_false, if_true, in_ev, bz_t hR, e, swaps_ev (show ps v 0 < 51 from ps_lt hv5 (by decide)), hτ.f hvn (show 0 < 7 by decide)]
    · refine rr_same (r := -1000000001) hk hw ?_ (fun τ hτ m0 => ?_)
      · unfold f_X8_turns
        simp only [chas_ev h1, bz_t hv, doI_some, doV_some, seqM_eq, chk_t, inb_nI hv5 (show 5 < 2 ^ 31 by decide), nI_clamp (show v < 2 ^ 31 by omega), show ¬ (1 : Int32) = 0 by decide, if_false, if_true, isKind_ev, bz_f hR]
      · unfold f_X9_turns
        simp only [misV_ev hn ((hτ.l (by decide)).trans h1), bz_t hv, doI_some, doV_some, seqM_eq, chk_t, show ¬ (1 : Int32) = 0 by decide, if_false, if_true, in_ev, bz_f hR]
  · refine rr_same (r := -1000000001) hk hw ?_ (fun τ hτ m0 => ?_)
    · unfold f_X8_turns
      simp only [chas_ev h1, bz_f hv, doI_some, doV_some, seqM_eq, chk_t, if_true]
    · unfold f_X9_turns
      simp only [misV_ev hn ((hτ.l (by decide)).trans h1), bz_f hv, doI_some, doV_some, seqM_eq, chk_t, if_true]
theorem op_speak (hf : 96 < fu) (hI : Inv m) : Op (f_X8_speak fu x1 x2) (f_X9_speak fu x1 x2) m := by
  refine op_row hI (fun n N σ X hc ht hk hw => ?_)
  have h1 := hk.1
  have hn := hk.2.1
  by_cases hv : isVp n x1
  · obtain ⟨v, hvn, rfl⟩ := isVp_of hn hv
    have hv5 : v < 5 := by omega
    have hok := hk.2.2.1 v hvn
    by_cases hR : inR x2 1 60
    · obtain ⟨y, hy1, hy5, rfl⟩ := inR_nI (a := 1) (b := 60) (by decide) (by decide) hR
      have hsw : ∀ τ : Row, upd (upd τ (ps v 6) (σ (ps v 6) + 1)) (ps v 4) (nI y) = upd (upd τ (ps v 4) (nI y)) (ps v 6) (σ (ps v 6) + 1) := fun τ => upd_comm (ps_ne (by decide) (by decide) (by decide))
      have hok4 : VOK (upd σ (ps v 4) (nI y)) v := by
        obtain ⟨a0, a1, a2, a3, -, a5⟩ := hok
        unfold VOK
        rw [pk_un (ps_ne (j := 0) (k := 4) (by decide) (by decide) (by decide)), pk_un (ps_ne (j := 1) (k := 4) (by decide) (by decide) (by decide)), pk_un (ps_ne (j := 2) (k := 4) (by decide) (by decide) (by decide)), pk_un (ps_ne (j := 3) (k := 4) (by decide) (by decide) (by decide)), pk_us, pk_un (ps_ne (j := 5) (k := 4) (by decide) (by decide) (by decide))]
        exact ⟨a0, a1, a2, a3, ⟨y, by omega, rfl⟩, a5⟩
      refine ⟨σ (ps v 4), n, upd (upd σ (ps v 4) (nI y)) (ps v 6) (σ (ps v 6) + 1), (hk.upd_v hvn (by decide) hok4).upd_v hvn (by decide) (hok4.congr (fun j hj => pk_un (ps_ne (by omega) (by decide) (by omega)))), (hw.upd_o (fun w _ => ps_ne (by decide) (by decide) (by decide))).upd_o (fun w _ => ps_ne (by decide) (by decide) (by decide)), ?_, fun key _ => ?_, ⟨m, fr_nil, ?_⟩, fun τ hτ m0 _ => ⟨upd (upd τ (ps v 4) (nI y)) (ps v 6) (σ (ps v 6) + 1), m0, hτ.up.up, fr_nil, ?_⟩⟩
      · rw [pk_un (by have := @ps_ge v 6; omega), pk_un (by have := @ps_ge v 4; omega)]
      · rw [pk_un (by unfold ps; omega), pk_un (by unfold ps; omega)]
      · unfold f_X8_speak
        simp only [chas_ev h1, bz_t hv, doI_some, doV_some, seqM_eq, chk_t, inb_nI hv5 (show 5 < 2 ^ 31 by decide), nI_clamp (show v < 2 ^ 31 by omega), show ¬ (1 : Int32) = 0 by decide, if_false, if_true, within_ev, bz_t hR, lc_vget hv5 (show 4 < 7 by decide), lc_vget hv5 (show 6 < 7 by decide), lc_vupd hv5 (show 4 < 7 by decide), lc_vupd hv5 (show 6 < 7 by decide), pk_un (ps_ne (u := v) (v := v) (j := 6) (k := 4) (by decide) (by decide) (by decide))]
      · unfold f_X9_speak
        have e : 16 + 7 * nI v + 4 = nI (ps v 4) := ix_ps (j := 4)
        simp only [misV_ev hn ((hτ.l (by decide)).trans h1), bz_t hv, doI_some, doV_some, seqM_eq, chk_t, show ¬ (1 : Int32) = 0 by decide, if_false, if_true, in_ev, bz_t hR, e, of_6 hv5, hτ.f hvn (show 6 < 7 by decide), put_6 hv5, hτ.f hvn (show 4 < 7 by decide), swaps_ev (show ps v 4 < 51 from ps_lt hv5 (by decide)), pk_un (ps_ne (u := v) (v := v) (j := 4) (k := 6) (by decide) (by decide) (by decide)), hsw]
    · refine rr_same (r := -1000000001) hk hw ?_ (fun τ hτ m0 => ?_)
      · unfold f_X8_speak
        simp only [chas_ev h1, bz_t hv, doI_some, doV_some, seqM_eq, chk_t, inb_nI hv5 (show 5 < 2 ^ 31 by decide), nI_clamp (show v < 2 ^ 31 by omega), show ¬ (1 : Int32) = 0 by decide, if_false, if_true, within_ev, bz_f hR]
      · unfold f_X9_speak
        simp only [misV_ev hn ((hτ.l (by decide)).trans h1), bz_t hv, doI_some, doV_some, seqM_eq, chk_t, show ¬ (1 : Int32) = 0 by decide, if_false, if_true, in_ev, bz_f hR]
  · refine rr_same (r := -1000000001) hk hw ?_ (fun τ hτ m0 => ?_)
    · unfold f_X8_speak
      simp only [chas_ev h1, bz_f hv, doI_some, doV_some, seqM_eq, chk_t, if_true]
    · unfold f_X9_speak
      simp only [misV_ev hn ((hτ.l (by decide)).trans h1), bz_f hv, doI_some, doV_some, seqM_eq, chk_t, if_true]
theorem op_hush (hf : 96 < fu) (hI : Inv m) : Op (f_X8_hush fu x1) (f_X9_hush fu x1) m := by
  refine op_row hI (fun n N σ X hc ht hk hw => ?_)
  have h1 := hk.1
  have hn := hk.2.1
  by_cases hv : isVp n x1
  · obtain ⟨v, hvn, rfl⟩ := isVp_of hn hv
    have hv5 : v < 5 := by omega
    have hok := hk.2.2.1 v hvn
    obtain ⟨a0, a1, a2, a3, ⟨l, hl, el⟩, a5⟩ := hok
    have e : 16 + 7 * nI v + 4 = nI (ps v 4) := ix_ps (j := 4)
    by_cases h0 : l = 0
    · subst h0
      refine rr_same (r := 0) hk hw ?_ (fun τ hτ m0 => ?_)
      · unfold f_X8_hush
        simp only [chas_ev h1, bz_t hv, doI_some, doV_some, seqM_eq, chk_t, inb_nI hv5 (show 5 < 2 ^ 31 by decide), nI_clamp (show v < 2 ^ 31 by omega), show ¬ (1 : Int32) = 0 by decide, if_false, if_true, lc_vget hv5 (show 4 < 7 by decide), el, show nI 0 = (0 : Int32) from rfl]
      · unfold f_X9_hush f_X9_hush_47
        have et : τ (ps v 4) = 0 := (hτ.f hvn (by decide)).trans el
        have eu : upd τ (ps v 4) 0 = τ := by
          have := @upd_self τ (ps v 4)
          rw [et] at this
          exact this
        simp only [misV_ev hn ((hτ.l (by decide)).trans h1), bz_t hv, doI_some, doV_some, seqM_eq, chk_t, show ¬ (1 : Int32) = 0 by decide, if_false, if_true, e, swaps_ev (show ps v 4 < 51 from ps_lt hv5 (by decide)), et, eu, show (0 : Int32) ≤ 0 by decide, Nat.reduceMul, Nat.reduceAdd, Int32.reduceToNatClampNeg, lm_14, lmu_14, upd_self]
    · have hl0 : ¬ nI l = 0 := nI_ne0 (by omega) (by omega)
      have hl1 : ¬ nI l ≤ 0 := nI_nle (by omega) (by omega)
      have hok4 : VOK (upd σ (ps v 4) 0) v := by
        unfold VOK
        rw [pk_un (ps_ne (j := 0) (k := 4) (by decide) (by decide) (by decide)), pk_un (ps_ne (j := 1) (k := 4) (by decide) (by decide) (by decide)), pk_un (ps_ne (j := 2) (k := 4) (by decide) (by decide) (by decide)), pk_un (ps_ne (j := 3) (k := 4) (by decide) (by decide) (by decide)), pk_us, pk_un (ps_ne (j := 5) (k := 4) (by decide) (by decide) (by decide))]
        exact ⟨a0, a1, a2, a3, ⟨0, by omega, rfl⟩, a5⟩
      refine ⟨nI l, n, upd (upd σ (ps v 4) 0) 14 (nI v), (hk.upd_v hvn (by decide) hok4).upd_low (by decide) (by decide) (by decide) (by decide) (by decide) (by decide) (by decide), (hw.upd_o (fun w _ => ps_ne (by decide) (by decide) (by decide))).low (by decide), ?_, fun key _ => ?_, ⟨m, fr_nil, ?_⟩, fun τ hτ m0 _ => ⟨upd (upd τ (ps v 4) 0) 14 (nI v), m0, hτ.up.up, fr_nil, ?_⟩⟩
      · rw [pk_un (by decide), pk_un (by have := @ps_ge v 4; omega)]
      · rw [pk_un (by omega), pk_un (by unfold ps; omega)]
      · unfold f_X8_hush
        simp only [chas_ev h1, bz_t hv, doI_some, doV_some, seqM_eq, chk_t, inb_nI hv5 (show 5 < 2 ^ 31 by decide), nI_clamp (show v < 2 ^ 31 by omega), show ¬ (1 : Int32) = 0 by decide, if_false, if_true, lc_vget hv5 (show 4 < 7 by decide), el, hl0, lc_vupd hv5 (show 4 < 7 by decide), lc_upd (show 14 < 54 by decide)]
      · unfold f_X9_hush f_X9_hush_47
        simp only [misV_ev hn ((hτ.l (by decide)).trans h1), bz_t hv, doI_some, doV_some, seqM_eq, chk_t, show ¬ (1 : Int32) = 0 by decide, if_false, if_true, e, swaps_ev (show ps v 4 < 51 from ps_lt hv5 (by decide)), hτ.f hvn (show 4 < 7 by decide), el, hl1, Nat.reduceMul, Nat.reduceAdd, Int32.reduceToNatClampNeg, lm_14, lmu_14]
  · refine rr_same (r := -1000000001) hk hw ?_ (fun τ hτ m0 => ?_)
    · unfold f_X8_hush
      simp only [chas_ev h1, bz_f hv, doI_some, doV_some, seqM_eq, chk_t, if_true]
    · unfold f_X9_hush
      simp only [misV_ev hn ((hτ.l (by decide)).trans h1), bz_f hv, doI_some, doV_some, seqM_eq, chk_t, if_true]
theorem op_seed (hI : Inv m) : Op (f_X8_seed fu x1) (f_X9_seed fu x1) m := by
  refine op_row hI (fun n N σ X hc ht hk hw => ?_)
  refine ⟨σ 0, n, upd σ 0 x1, hk.upd_low (by decide) (by decide) (by decide) (by decide) (by decide) (by decide) (by decide), hw.low (by decide), pk_un (by decide), fun key _ => pk_un (by omega), ⟨m, fr_nil, ?_⟩, fun τ hτ m0 _ => ⟨upd τ 0 x1, m0, hτ.up, fr_nil, ?_⟩⟩
  · unfold f_X8_seed
    simp only [doI_some, doV_some, seqM_eq, chk_t, lc_get (show 0 < 54 by decide), lc_upd (show 0 < 54 by decide)]
  · unfold f_X9_seed
    have e := @swaps_ev fu τ m0 x1 0 (by decide)
    rw [show nI 0 = (0 : Int32) from rfl, hτ.l (show 0 < 16 by decide)] at e
    simp only [e, doI_some, doV_some, seqM_eq, chk_t]
end OPA
