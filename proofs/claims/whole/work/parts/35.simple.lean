/-! PURE: count, textTold, trim, tell, feed -/
section PARTS
variable {m m' : Mem} {X : TxS} {N n : Nat} {σ τ : Row}
theorem inv_tape (hI : Inv m) (hf : Fr sTA m m') (h : TAPE m') : Inv m' := by
  obtain ⟨n, N, σ, τ, X, h1, h2, h3, h4, h5, h6, h7, h8, h9⟩ := hI
  exact ⟨n, N, σ, τ, X, h1.on (hf.on (by decide)), h2, h3.on (hf.on (by decide)), h4.on h3.2.1 h3.1 (hf.on (by decide)), h, h6.on (hf.on (by decide)), h7.on (hf.on (by decide)), h8.on (hf.on (by decide)), h9.on (hf.on (by decide))⟩
theorem inv_sht (hI : Inv m) (hf : Fr (sSH ++ scr) m m') (h : SHT m') : Inv m' := by
  obtain ⟨n, N, σ, τ, X, h1, h2, h3, h4, h5, h6, h7, h8, h9⟩ := hI
  exact ⟨n, N, σ, τ, X, h1.on (hf.on (by decide)), h2, h3.on (hf.on (by decide)), h4.on h3.2.1 h3.1 (hf.on (by decide)), h5.on (hf.on (by decide)), h, h7.on (hf.on (by decide)), h8.on (hf.on (by decide)), h9.on (hf.on (by decide))⟩
theorem inv_slt (hI : Inv m) (hf : Fr sSL m m') (h : SLT m') : Inv m' := by
  obtain ⟨n, N, σ, τ, X, h1, h2, h3, h4, h5, h6, h7, h8, h9⟩ := hI
  exact ⟨n, N, σ, τ, X, h1.on (hf.on (by decide)), h2, h3.on (hf.on (by decide)), h4.on h3.2.1 h3.1 (hf.on (by decide)), h5.on (hf.on (by decide)), h6.on (hf.on (by decide)), h, h8.on (hf.on (by decide)), h9.on (hf.on (by decide))⟩
theorem inv_wtg (hI : Inv m) (hf : Fr (sWT ++ scr) m m') (h : WTG m') : Inv m' := by
  obtain ⟨n, N, σ, τ, X, h1, h2, h3, h4, h5, h6, h7, h8, h9⟩ := hI
  exact ⟨n, N, σ, τ, X, h1.on (hf.on (by decide)), h2, h3.on (hf.on (by decide)), h4.on h3.2.1 h3.1 (hf.on (by decide)), h5.on (hf.on (by decide)), h6.on (hf.on (by decide)), h7.on (hf.on (by decide)), h, h9.on (hf.on (by decide))⟩
theorem op_pure {fX fM : Mem → Option (Int32 × Mem)} (hI : Inv m) (r : Int32) (h1 : fX m = some (r, m)) (h2 : fM m = some (r, m)) : Op fX fM m := ⟨r, m, m, h1, h2, hI⟩
end PARTS
section OPD
variable {fu n N v k B : Nat} {σ τ ρ : Row} {m M M' : Mem} {X : TxS} {x x1 x2 x3 : Int32}
theorem RW.c (h : RW n σ τ m) {q : Nat} (hq : q < 16) : m (sf 0 q) = σ q := by
  have := h.1 q (by omega)
  rw [← this]
  congr 1
  unfold sf; omega
theorem RW.r (h : RW n σ τ m) {q : Nat} (hq : q < 16) : m (4000 + q) = σ q := by
  rw [h.2.1 q (by omega), h.2.2.1.l hq]
theorem op_count (hI : Inv m) : Op (f_X8_count fu x1) (f_X9_count fu x1) m := by
  have hI0 := hI
  obtain ⟨n, N, σ, τ, X, h1, h2, h3, h4, ⟨a, -, ha, hb, -⟩, h6, h7, ⟨b, -, hc, hd, -⟩, h9⟩ := hI
  have r1 : m 4001 = σ 1 := h1.r (q := 1) (by decide)
  have r2 : m 4002 = σ 2 := h1.r (q := 2) (by decide)
  have r3 : m 4003 = σ 3 := h1.r (q := 3) (by decide)
  have r15 : m 4015 = σ 15 := h1.r (q := 15) (by decide)
  have r0 : m 4000 = σ 0 := h1.r (q := 0) (by decide)
  refine op_pure hI0 (if x1 = 0 then σ 1 else if x1 = 1 then σ 2 else if x1 = 2 then σ 3 else if x1 = 3 then σ 15 else if x1 = 4 then nI b else if x1 = 5 then nI a else if x1 = 6 then σ 0 else -1000000001) ?_ ?_
  · unfold f_X8_count
    simp only [h1.c (show 1 < 16 by decide), h1.c (show 2 < 16 by decide), h1.c (show 3 < 16 by decide), h1.c (show 15 < 16 by decide), h1.c (show 0 < 16 by decide), ha, hc, some_ite]
  · unfold f_X9_count
    simp only [Nat.reduceMul, Nat.reduceAdd, Int32.reduceToNatClampNeg, r1, r2, r3, r15, r0, hb, hd, some_ite]
theorem op_trim (hI : Inv m) : Op (f_X8_trim fu x1) (f_X9_trim fu x1) m := by
  have hI0 := hI
  obtain ⟨n, N, σ, τ, X, h1, h2, h3, h4, ⟨a, ha9, ha, hb, hq⟩, h6, h7, h8, h9⟩ := hI
  by_cases hA : inR x1 0 (nI a)
  · obtain ⟨k, -, hk, rfl⟩ := inR_nI (a := 0) (b := a) (by omega) (by decide) hA
    refine ⟨nI k, upd m 280 (nI k), upd (upd m 280 (nI k)) 3002 (nI k), ?_, ?_, ?_⟩
    · unfold f_X8_trim
      simp only [ha, within_ev, bz_t hA, doI_some, doV_some, seqM_eq, chk_t, show ¬ (1 : Int32) = 0 by decide, if_false]
    · unfold f_X9_trim
      simp only [pk_un (show (3002 : Nat) ≠ 280 by decide), hb, in_ev, bz_t hA, doI_some, doV_some, seqM_eq, chk_t, show ¬ (1 : Int32) = 0 by decide, if_false]
    · refine inv_tape hI0 (fun j hj => ?_) ⟨k, by omega, ?_, pk_us, fun i hi => ?_⟩
      · have p1 := hj (280, 281) (by decide)
        have p2 := hj (3002, 3003) (by decide)
        simp only at p1 p2
        rw [pk_un (by omega), pk_un (by omega)]
      · rw [pk_un (by decide), pk_us]
      · rw [pk_un (by omega), pk_un (by omega), pk_un (by omega), pk_un (by omega)]
        exact hq i (by omega)
  · refine op_pure hI0 (-1000000001) ?_ ?_
    · unfold f_X8_trim
      simp only [ha, within_ev, bz_f hA, doI_some, doV_some, seqM_eq, chk_t, if_true]
    · unfold f_X9_trim
      simp only [hb, in_ev, bz_f hA, doI_some, doV_some, seqM_eq, chk_t, if_true]
theorem op_tell (hI : Inv m) : Op (f_X8_tell fu x1) (f_X9_tell fu x1) m := by
  have hI0 := hI
  obtain ⟨n, N, σ, τ, X, h1, h2, h3, h4, h5, h6, h7, ⟨a, ha9, ha, hb, hq⟩, h9⟩ := hI
  by_cases hA : a = 60
  · subst hA
    refine op_pure hI0 (-1000000003) ?_ ?_
    · unfold f_X8_tell
      rw [ha, if_neg (by decide)]
    · unfold f_X9_tell
      rw [hb, if_pos (by decide)]
  · have ha6 : a < 60 := by omega
    refine ⟨nI (a + 1), upd (upd m (400 + a) x1) 271 (nI (a + 1)), upd (upd (upd (upd m (400 + a) x1) 271 (nI (a + 1))) (8650 + a) x1) 3012 (nI (a + 1)), ?_, ?_, ?_⟩
    · unfold f_X8_tell
      rw [ha, if_pos (by rw [show (60 : Int32) = nI 60 from rfl, nI_ltP (by omega) (by decide)]; exact ha6), inb_nI ha6 (by decide), chk_t, nI_clamp (by omega)]
      simp only [seqM_eq, pk_un (show 271 ≠ 400 + a by omega), ha, nI_1, pk_us]
    · unfold f_X9_tell
      have e : (upd (upd m (400 + a) x1) 271 (nI (a + 1))) 3012 = nI a := by rw [pk_un (by decide), pk_un (by omega), hb]
      rw [e, if_neg (by rw [show (60 : Int32) = nI 60 from rfl, nI_eqP (by omega) (by decide)]; exact hA), inb_nI ha6 (by decide), chk_t, nI_clamp (by omega)]
      simp only [seqM_eq, pk_un (show 3012 ≠ 8650 + a by omega), e, nI_1, pk_us]
    · refine inv_wtg hI0 (fun j hj => ?_) ⟨a + 1, by omega, ?_, pk_us, fun i hi => ?_⟩
      · have p1 := hj (271, 272) (by decide)
        have p2 := hj (400, 460) (by decide)
        have p3 := hj (3012, 3013) (by decide)
        have p4 := hj (8650, 8710) (by decide)
        simp only at p1 p2 p3 p4
        rw [pk_un (by omega), pk_un (by omega), pk_un (by omega), pk_un (by omega)]
      · rw [pk_un (by omega), pk_un (by omega), pk_us]
      · by_cases e : i = a
        · subst e
          rw [pk_un (by omega), pk_us, pk_un (by omega), pk_un (by omega), pk_un (by omega), pk_us]
        · rw [pk_un (by omega), pk_un (by omega), pk_un (by omega), pk_un (by omega), pk_un (by omega), pk_un (by omega), pk_un (by omega), pk_un (by omega)]
          exact hq i (by omega)
theorem op_textTold (hI : Inv m) : Op (f_X8_textTold fu x1 x2) (f_X9_textTold fu x1 x2) m := by
  have hI0 := hI
  obtain ⟨n, N, σ, τ, X, h1, h2, ⟨hN, hv, hC, hM⟩, h4, h5, h6, h7, h8, h9⟩ := hI
  have r15 : m 4015 = nI N := (h1.r (q := 15) (by decide)).trans h2.1
  have c15 : m (sf 0 15) = nI N := (h1.c (by decide)).trans h2.1
  by_cases hA : inR x1 0 (nI N - 1)
  · have hN1 : 1 ≤ N := by
      refine Nat.lt_of_not_le (fun z => ?_)
      have z0 : N = 0 := by omega
      subst z0
      exact hA.2 (by
        have a := Int32.not_lt.mp hA.1
        exact Int32.lt_of_lt_of_le (by decide) a)
    rw [nI_pr hN1] at hA
    obtain ⟨t, -, ht, rfl⟩ := inR_nI (a := 0) (b := N - 1) (by omega) (by decide) hA
    by_cases hB : inR x2 0 1
    · obtain ⟨c1, c2, -, -⟩ := hC t (by omega)
      obtain ⟨d1, d2, -⟩ := hM t (by omega)
      obtain ⟨v1, v2, v3⟩ := hv t (by omega)
      have hz := v3.1
      refine op_pure hI0 (if x2 = 0 then nI (X.1 t) else nI (X.2.1 t)) ?_ ?_
      · unfold f_X8_textTold
        simp only [c15, nI_pr hN1, within_ev, bz_t hA, bz_t hB, doI_some, doV_some, seqM_eq, chk_t, show ¬ (1 : Int32) = 0 by decide, if_false, inb_nI (show t < 14 by omega) (show 14 < 2 ^ 31 by decide), nI_clamp (show t < 2 ^ 31 by omega), c1, c2, some_ite]
      · have e1 : 51 + 2 * nI t = nI (51 + 2 * t) := by rw [show (51 : Int32) = nI 51 from rfl, show (2 : Int32) = nI 2 from rfl, pk_mul, nI_add]
        have e2 : 4000 + 1500 * 0 + (51 + 2 * t) = 4000 + 51 + 2 * t := by omega
        have e3 : 4000 + 1500 * 0 + (51 + 2 * t + 1) = 4000 + 52 + 2 * t := by omega
        have e4 : nI (1000 * X.1 t + X.2.2.1 t) / 1000 = nI (X.1 t) := by
          rw [show (1000 : Int32) = nI 1000 from rfl, pk_div (by omega) (by decide) (by decide)]
          congr 1
          omega
        unfold f_X9_textTold
        rw [show 4000 + 1500 * 0 + (15 : Int32).toNatClampNeg = 4015 by decide]
        simp only [r15, nI_pr hN1, in_ev, bz_t hA, bz_t hB, doI_some, doV_some, seqM_eq, chk_t, show ¬ (1 : Int32) = 0 by decide, if_false, e1, nI_1, inb_nI (show 51 + 2 * t < 1423 by omega) (show 1423 < 2 ^ 31 by decide), inb_nI (show 51 + 2 * t + 1 < 1423 by omega) (show 1423 < 2 ^ 31 by decide), nI_clamp (show 51 + 2 * t < 2 ^ 31 by omega), nI_clamp (show 51 + 2 * t + 1 < 2 ^ 31 by omega), e2, e3, d1, d2, e4, some_ite]
    · refine op_pure hI0 (-1000000001) ?_ ?_
      · unfold f_X8_textTold
        simp only [c15, nI_pr hN1, within_ev, bz_t hA, bz_f hB, doI_some, doV_some, seqM_eq, chk_t, show ¬ (1 : Int32) = 0 by decide, if_false, if_true]
      · unfold f_X9_textTold
        rw [show 4000 + 1500 * 0 + (15 : Int32).toNatClampNeg = 4015 by decide]
        simp only [r15, nI_pr hN1, in_ev, bz_t hA, bz_f hB, doI_some, doV_some, seqM_eq, chk_t, show ¬ (1 : Int32) = 0 by decide, if_false, if_true]
  · refine op_pure hI0 (-1000000001) ?_ ?_
    · unfold f_X8_textTold
      simp only [c15, within_ev, bz_f hA, doI_some, doV_some, seqM_eq, chk_t, if_true]
    · unfold f_X9_textTold
      rw [show 4000 + 1500 * 0 + (15 : Int32).toNatClampNeg = 4015 by decide]
      simp only [r15, in_ev, bz_f hA, doI_some, doV_some, seqM_eq, chk_t, if_true]
end OPD
