/-! PURE: more acts on the row -/
section OPB
variable {fu n N v : Nat} {σ : Row} {m : Mem} {X : TxS} {x x1 x2 x3 : Int32}
theorem callows_ev : f_X7_allows fu x1 x2 m = some ((if x1 = 1 then bz (inR x2 1 60) else if x1 = 2 then bz (inR x2 1 60) else if x1 = 3 then bz (inR x2 0 40) else 0), m) := by
  unfold f_X7_allows
  simp only [within_ev, doI_some, doV_some, seqM_eq, chk_t, bz0, bz1, isB_bz, isB_0, isB_1, some_ite]
theorem misOf_ev : f_X9_isOf fu x1 x2 m = some ((if x1 = 3 then bz (inR x2 0 40) else bz (inR x2 1 60)), m) := by
  unfold f_X9_isOf
  simp only [in_ev, doI_some, doV_some, seqM_eq, chk_t, bz0, bz1, isB_bz, isB_0, isB_1, some_ite]
theorem not_inR {a b : Nat} (hb : b < 2 ^ 31) (ha : a < 2 ^ 31) (h : ∀ k, a ≤ k → k ≤ b → ¬ x = nI k) : ¬ inR x (nI a) (nI b) := fun z => by
  obtain ⟨k, h1, h2, h3⟩ := inR_nI hb ha z
  exact h k h1 h2 h3
theorem op_set (hf : 96 < fu) (hI : Inv m) : Op (f_X8_set fu x1 x2 x3) (f_X9_set fu x1 x2 x3) m := by
  refine op_row hI (fun n N σ X hc ht hk hw => ?_)
  have h1 := hk.1
  have hn := hk.2.1
  by_cases hv : isVp n x1
  · obtain ⟨v, hvn, rfl⟩ := isVp_of hn hv
    have hv5 : v < 5 := by omega
    have hok := hk.2.2.1 v hvn
    by_cases e1 : x2 = 1
    · subst e1
      by_cases hR : inR x3 1 60
      · obtain ⟨y, hy1, hy5, rfl⟩ := inR_nI (a := 1) (b := 60) (by decide) (by decide) hR
        refine ⟨σ (ps v 1), n, upd σ (ps v 1) (nI y), hk.upd_v hvn (by decide) ?_, (fun w hw2 => by
          by_cases e : w = v
          · subst e
            exact ⟨y, hy1, hy5, pk_us⟩
          · rw [pk_un (fun z => e (ps_inj (by decide) (by decide) z).1)]; exact hw w hw2), pk_un (by have := @ps_ge v 1; omega), fun key _ => pk_un (by unfold ps; omega), ⟨m, fr_nil, ?_⟩, fun τ hτ m0 _ => ⟨upd τ (ps v 1) (nI y), m0, hτ.up, fr_nil, ?_⟩⟩
        · obtain ⟨a0, a1, a2, a3, a4, a5⟩ := hok
          unfold VOK
          rw [pk_un (ps_ne (j := 0) (k := 1) (by decide) (by decide) (by decide)), pk_us, pk_un (ps_ne (j := 2) (k := 1) (by decide) (by decide) (by decide)), pk_un (ps_ne (j := 3) (k := 1) (by decide) (by decide) (by decide)), pk_un (ps_ne (j := 4) (k := 1) (by decide) (by decide) (by decide)), pk_un (ps_ne (j := 5) (k := 1) (by decide) (by decide) (by decide))]
          exact ⟨a0, ⟨y, hy1, by omega, rfl⟩, a2, a3, a4, a5⟩
        · unfold f_X8_set f_X7_put
          simp only [chas_ev h1, bz_t hv, doI_some, doV_some, seqM_eq, chk_t, inb_nI hv5 (show 5 < 2 ^ 31 by decide), nI_clamp (show v < 2 ^ 31 by omega), show ¬ (1 : Int32) = 0 by decide, if_false, if_true, callows_ev, bz_t hR, lc_vget hv5 (show 1 < 7 by decide), lc_vupd hv5 (show 1 < 7 by decide), show ¬ (1 : Int32) = 2 by decide, show ¬ (1 : Int32) = 3 by decide]
        · unfold f_X9_set
          have e : 16 + 7 * nI v + 1 = nI (ps v 1) := ix_ps (j := 1)
          simp only [misV_ev hn ((hτ.l (by decide)).trans h1), bz_t hv, doI_some, doV_some, seqM_eq, chk_t, show ¬ (1 : Int32) = 0 by decide, if_false, if_true, in_ev, misOf_ev, bz_t hR, bz_t (show inR (1 : Int32) 1 3 by decide), e, swaps_ev (show ps v 1 < 51 from ps_lt hv5 (by decide)), hτ.f hvn (show 1 < 7 by decide), show ¬ (1 : Int32) = 2 by decide, show ¬ (1 : Int32) = 3 by decide]
      · refine rr_same (r := -1000000001) hk hw ?_ (fun τ hτ m0 => ?_)
        · unfold f_X8_set
          simp only [chas_ev h1, bz_t hv, doI_some, doV_some, seqM_eq, chk_t, inb_nI hv5 (show 5 < 2 ^ 31 by decide), nI_clamp (show v < 2 ^ 31 by omega), show ¬ (1 : Int32) = 0 by decide, if_false, if_true, callows_ev, bz_f hR, show ¬ (1 : Int32) = 2 by decide, show ¬ (1 : Int32) = 3 by decide]
        · unfold f_X9_set
          simp only [misV_ev hn ((hτ.l (by decide)).trans h1), bz_t hv, doI_some, doV_some, seqM_eq, chk_t, show ¬ (1 : Int32) = 0 by decide, if_false, if_true, in_ev, misOf_ev, bz_f hR, bz_t (show inR (1 : Int32) 1 3 by decide), show ¬ (1 : Int32) = 2 by decide, show ¬ (1 : Int32) = 3 by decide]
    by_cases e2 : x2 = 2
    · subst e2
      by_cases hR : inR x3 1 60
      · obtain ⟨y, hy1, hy5, rfl⟩ := inR_nI (a := 1) (b := 60) (by decide) (by decide) hR
        refine ⟨σ (ps v 2), n, upd σ (ps v 2) (nI y), hk.upd_v hvn (by decide) ?_, (hw.upd_o (fun w _ => ps_ne (by decide) (by decide) (by decide))), pk_un (by have := @ps_ge v 2; omega), fun key _ => pk_un (by unfold ps; omega), ⟨m, fr_nil, ?_⟩, fun τ hτ m0 _ => ⟨upd τ (ps v 2) (nI y), m0, hτ.up, fr_nil, ?_⟩⟩
        · obtain ⟨a0, a1, a2, a3, a4, a5⟩ := hok
          unfold VOK
          rw [pk_un (ps_ne (j := 0) (k := 2) (by decide) (by decide) (by decide)), pk_un (ps_ne (j := 1) (k := 2) (by decide) (by decide) (by decide)), pk_us, pk_un (ps_ne (j := 3) (k := 2) (by decide) (by decide) (by decide)), pk_un (ps_ne (j := 4) (k := 2) (by decide) (by decide) (by decide)), pk_un (ps_ne (j := 5) (k := 2) (by decide) (by decide) (by decide))]
          exact ⟨a0, a1, ⟨y, hy1, hy5, rfl⟩, a3, a4, a5⟩
        · unfold f_X8_set f_X7_put
          simp only [chas_ev h1, bz_t hv, doI_some, doV_some, seqM_eq, chk_t, inb_nI hv5 (show 5 < 2 ^ 31 by decide), nI_clamp (show v < 2 ^ 31 by omega), show ¬ (1 : Int32) = 0 by decide, if_false, if_true, callows_ev, bz_t hR, lc_vget hv5 (show 2 < 7 by decide), lc_vupd hv5 (show 2 < 7 by decide), show ¬ (2 : Int32) = 1 by decide, show ¬ (2 : Int32) = 3 by decide]
        · unfold f_X9_set
          have e : 16 + 7 * nI v + 2 = nI (ps v 2) := ix_ps (j := 2)
          simp only [misV_ev hn ((hτ.l (by decide)).trans h1), bz_t hv, doI_some, doV_some, seqM_eq, chk_t, show ¬ (1 : Int32) = 0 by decide, if_false, if_true, in_ev, misOf_ev, bz_t hR, bz_t (show inR (2 : Int32) 1 3 by decide), e, swaps_ev (show ps v 2 < 51 from ps_lt hv5 (by decide)), hτ.f hvn (show 2 < 7 by decide), show ¬ (2 : Int32) = 1 by decide, show ¬ (2 : Int32) = 3 by decide]
      · refine rr_same (r := -1000000001) hk hw ?_ (fun τ hτ m0 => ?_)
        · unfold f_X8_set
          simp only [chas_ev h1, bz_t hv, doI_some, doV_some, seqM_eq, chk_t, inb_nI hv5 (show 5 < 2 ^ 31 by decide), nI_clamp (show v < 2 ^ 31 by omega), show ¬ (1 : Int32) = 0 by decide, if_false, if_true, callows_ev, bz_f hR, show ¬ (2 : Int32) = 1 by decide, show ¬ (2 : Int32) = 3 by decide]
        · unfold f_X9_set
          simp only [misV_ev hn ((hτ.l (by decide)).trans h1), bz_t hv, doI_some, doV_some, seqM_eq, chk_t, show ¬ (1 : Int32) = 0 by decide, if_false, if_true, in_ev, misOf_ev, bz_f hR, bz_t (show inR (2 : Int32) 1 3 by decide), show ¬ (2 : Int32) = 1 by decide, show ¬ (2 : Int32) = 3 by decide]
    by_cases e3 : x2 = 3
    · subst e3
      by_cases hR : inR x3 0 40
      · obtain ⟨y, hy1, hy5, rfl⟩ := inR_nI (a := 0) (b := 40) (by decide) (by decide) hR
        refine ⟨σ (ps v 3), n, upd σ (ps v 3) (nI y), hk.upd_v hvn (by decide) ?_, (hw.upd_o (fun w _ => ps_ne (by decide) (by decide) (by decide))), pk_un (by have := @ps_ge v 3; omega), fun key _ => pk_un (by unfold ps; omega), ⟨m, fr_nil, ?_⟩, fun τ hτ m0 _ => ⟨upd τ (ps v 3) (nI y), m0, hτ.up, fr_nil, ?_⟩⟩
        · obtain ⟨a0, a1, a2, a3, a4, a5⟩ := hok
          unfold VOK
          rw [pk_un (ps_ne (j := 0) (k := 3) (by decide) (by decide) (by decide)), pk_un (ps_ne (j := 1) (k := 3) (by decide) (by decide) (by decide)), pk_un (ps_ne (j := 2) (k := 3) (by decide) (by decide) (by decide)), pk_us, pk_un (ps_ne (j := 4) (k := 3) (by decide) (by decide) (by decide)), pk_un (ps_ne (j := 5) (k := 3) (by decide) (by decide) (by decide))]
          exact ⟨a0, a1, a2, ⟨y, hy5, rfl⟩, a4, a5⟩
        · unfold f_X8_set f_X7_put
          simp only [chas_ev h1, bz_t hv, doI_some, doV_some, seqM_eq, chk_t, inb_nI hv5 (show 5 < 2 ^ 31 by decide), nI_clamp (show v < 2 ^ 31 by omega), show ¬ (1 : Int32) = 0 by decide, if_false, if_true, callows_ev, bz_t hR, lc_vget hv5 (show 3 < 7 by decide), lc_vupd hv5 (show 3 < 7 by decide), show ¬ (3 : Int32) = 1 by decide, show ¬ (3 : Int32) = 2 by decide]
        · unfold f_X9_set
          have e : 16 + 7 * nI v + 3 = nI (ps v 3) := ix_ps (j := 3)
          simp only [misV_ev hn ((hτ.l (by decide)).trans h1), bz_t hv, doI_some, doV_some, seqM_eq, chk_t, show ¬ (1 : Int32) = 0 by decide, if_false, if_true, in_ev, misOf_ev, bz_t hR, bz_t (show inR (3 : Int32) 1 3 by decide), e, swaps_ev (show ps v 3 < 51 from ps_lt hv5 (by decide)), hτ.f hvn (show 3 < 7 by decide), show ¬ (3 : Int32) = 1 by decide, show ¬ (3 : Int32) = 2 by decide]
      · refine rr_same (r := -1000000001) hk hw ?_ (fun τ hτ m0 => ?_)
        · unfold f_X8_set
          simp only [chas_ev h1, bz_t hv, doI_some, doV_some, seqM_eq, chk_t, inb_nI hv5 (show 5 < 2 ^ 31 by decide), nI_clamp (show v < 2 ^ 31 by omega), show ¬ (1 : Int32) = 0 by decide, if_false, if_true, callows_ev, bz_f hR, show ¬ (3 : Int32) = 1 by decide, show ¬ (3 : Int32) = 2 by decide]
        · unfold f_X9_set
          simp only [misV_ev hn ((hτ.l (by decide)).trans h1), bz_t hv, doI_some, doV_some, seqM_eq, chk_t, show ¬ (1 : Int32) = 0 by decide, if_false, if_true, in_ev, misOf_ev, bz_f hR, bz_t (show inR (3 : Int32) 1 3 by decide), show ¬ (3 : Int32) = 1 by decide, show ¬ (3 : Int32) = 2 by decide]
    · have hno : ¬ inR x2 1 3 := not_inR (a := 1) (b := 3) (by decide) (by decide) (fun k q1 q2 => by
        rcases (show k = 1 ∨ k = 2 ∨ k = 3 by omega) with rfl | rfl | rfl
        · exact e1
        · exact e2
        · exact e3)
      refine rr_same (r := -1000000001) hk hw ?_ (fun τ hτ m0 => ?_)
      · unfold f_X8_set
        simp only [chas_ev h1, bz_t hv, doI_some, doV_some, seqM_eq, chk_t, inb_nI hv5 (show 5 < 2 ^ 31 by decide), nI_clamp (show v < 2 ^ 31 by omega), show ¬ (1 : Int32) = 0 by decide, if_false, if_true, callows_ev, e1, e2, e3]
      · unfold f_X9_set
        simp only [misV_ev hn ((hτ.l (by decide)).trans h1), bz_t hv, doI_some, doV_some, seqM_eq, chk_t, show ¬ (1 : Int32) = 0 by decide, if_false, if_true, in_ev, bz_f hno]
  · refine rr_same (r := -1000000001) hk hw ?_ (fun τ hτ m0 => ?_)
    · unfold f_X8_set
      simp only [chas_ev h1, bz_f hv, doI_some, doV_some, seqM_eq, chk_t, if_true]
    · unfold f_X9_set
      simp only [misV_ev hn ((hτ.l (by decide)).trans h1), bz_f hv, doI_some, doV_some, seqM_eq, chk_t, if_true]
theorem sallows_ev : f_X4_allows fu x1 x2 m = some ((if x1 = 0 then bz (inR x2 0 9999) else if x1 = 1 then bz (inR x2 0 200) else if x1 = 2 then bz (inR x2 0 200) else 0), m) := by
  unfold f_X4_allows
  simp only [within_ev, doI_some, doV_some, seqM_eq, chk_t, bz0, bz1, isB_bz, isB_0, isB_1, some_ite]
theorem ROK.upd_5 {l : Nat} (h : ROK 9999 n σ) (hl : l ≤ 9999) : ROK 9999 n (upd σ 5 (nI l)) := by
  obtain ⟨a, b, c, -, d⟩ := h
  refine ⟨by rw [pk_un (by decide)]; exact a, b, fun w hw => (c w hw).congr (fun j _ => pk_un (by have := @ps_ge w j; omega)), ⟨l, hl, pk_us⟩, ?_⟩
  rw [pk_un (show 2 ≠ 5 by decide), pk_un (show 6 ≠ 5 by decide), pk_un (show 8 ≠ 5 by decide), pk_un (show 12 ≠ 5 by decide)]
  exact d
theorem op_air (hf : 96 < fu) (hI : Inv m) : Op (f_X8_air fu x1 x2) (f_X9_air fu x1 x2) m := by
  refine op_row hI (fun n N σ X hc ht hk hw => ?_)
  by_cases e0 : x1 = 0
  · subst e0
    by_cases hR : inR x2 0 9999
    · obtain ⟨y, -, hy5, rfl⟩ := inR_nI (a := 0) (b := 9999) (by decide) (by decide) hR
      refine ⟨σ 5, n, upd σ 5 (nI y), hk.upd_5 hy5, hw.low (by decide), pk_un (by decide), fun key _ => pk_un (by omega), ⟨m, fr_nil, ?_⟩, fun τ hτ m0 _ => ⟨upd τ 5 (nI y), m0, hτ.up, fr_nil, ?_⟩⟩
      · unfold f_X8_air f_X4_put
        simp only [doI_some, doV_some, seqM_eq, chk_t, show ¬ (1 : Int32) = 0 by decide, if_false, if_true, sallows_ev, bz_t hR, lc_get (show 5 < 54 by decide), lc_upd (show 5 < 54 by decide), show ¬ (0 : Int32) = 1 by decide, show ¬ (0 : Int32) = 2 by decide]
      · unfold f_X9_air f_X9_air_24 f_X9_air_52
        have e := @swaps_ev fu τ m0 (nI y) 5 (by decide)
        rw [show nI 5 = (5 : Int32) from rfl, hτ.l (show 5 < 16 by decide)] at e
        simp only [doI_some, doV_some, seqM_eq, chk_t, show ¬ (1 : Int32) = 0 by decide, if_false, if_true, in_ev, bz_t hR, bz_t (show inR (0 : Int32) 0 2 by decide), e, show ¬ (0 : Int32) = 1 by decide, show ¬ (0 : Int32) = 2 by decide]
    · refine rr_same (r := -1000000001) hk hw ?_ (fun τ hτ m0 => ?_)
      · unfold f_X8_air
        simp only [doI_some, doV_some, seqM_eq, chk_t, show ¬ (1 : Int32) = 0 by decide, if_false, if_true, sallows_ev, bz_f hR, show ¬ (0 : Int32) = 1 by decide, show ¬ (0 : Int32) = 2 by decide]
      · unfold f_X9_air f_X9_air_24
        simp only [doI_some, doV_some, seqM_eq, chk_t, show ¬ (1 : Int32) = 0 by decide, if_false, if_true, in_ev, bz_f hR, bz_t (show inR (0 : Int32) 0 2 by decide), show ¬ (0 : Int32) = 1 by decide, show ¬ (0 : Int32) = 2 by decide]
  by_cases e1 : x1 = 1
  · subst e1
    by_cases hR : inR x2 0 200
    · obtain ⟨y, -, hy5, rfl⟩ := inR_nI (a := 0) (b := 200) (by decide) (by decide) hR
      refine ⟨σ 3, n, upd σ 3 (nI y), hk.upd_low (by decide) (by decide) (by decide) (by decide) (by decide) (by decide) (by decide), hw.low (by decide), pk_un (by decide), fun key _ => pk_un (by omega), ⟨m, fr_nil, ?_⟩, fun τ hτ m0 _ => ⟨upd τ 3 (nI y), m0, hτ.up, fr_nil, ?_⟩⟩
      · unfold f_X8_air f_X4_put
        simp only [doI_some, doV_some, seqM_eq, chk_t, show ¬ (1 : Int32) = 0 by decide, if_false, if_true, sallows_ev, bz_t hR, lc_get (show 3 < 54 by decide), lc_upd (show 3 < 54 by decide), show ¬ (1 : Int32) = 0 by decide, show ¬ (1 : Int32) = 2 by decide]
      · unfold f_X9_air f_X9_air_24 f_X9_air_52
        have e := @swaps_ev fu τ m0 (nI y) 3 (by decide)
        rw [show nI 3 = (3 : Int32) from rfl, hτ.l (show 3 < 16 by decide)] at e
        simp only [doI_some, doV_some, seqM_eq, chk_t, show ¬ (1 : Int32) = 0 by decide, if_false, if_true, in_ev, bz_t hR, bz_t (show inR (1 : Int32) 0 2 by decide), e, show ¬ (1 : Int32) = 0 by decide, show ¬ (1 : Int32) = 2 by decide]
    · refine rr_same (r := -1000000001) hk hw ?_ (fun τ hτ m0 => ?_)
      · unfold f_X8_air
        simp only [doI_some, doV_some, seqM_eq, chk_t, show ¬ (1 : Int32) = 0 by decide, if_false, if_true, sallows_ev, bz_f hR, show ¬ (1 : Int32) = 0 by decide, show ¬ (1 : Int32) = 2 by decide]
      · unfold f_X9_air f_X9_air_24
        simp only [doI_some, doV_some, seqM_eq, chk_t, show ¬ (1 : Int32) = 0 by decide, if_false, if_true, in_ev, bz_f hR, bz_t (show inR (1 : Int32) 0 2 by decide), show ¬ (1 : Int32) = 0 by decide, show ¬ (1 : Int32) = 2 by decide]
  by_cases e2 : x1 = 2
  · subst e2
    by_cases hR : inR x2 0 200
    · obtain ⟨y, -, hy5, rfl⟩ := inR_nI (a := 0) (b := 200) (by decide) (by decide) hR
      refine ⟨σ 4, n, upd σ 4 (nI y), hk.upd_low (by decide) (by decide) (by decide) (by decide) (by decide) (by decide) (by decide), hw.low (by decide), pk_un (by decide), fun key _ => pk_un (by omega), ⟨m, fr_nil, ?_⟩, fun τ hτ m0 _ => ⟨upd τ 4 (nI y), m0, hτ.up, fr_nil, ?_⟩⟩
      · unfold f_X8_air f_X4_put
        simp only [doI_some, doV_some, seqM_eq, chk_t, show ¬ (1 : Int32) = 0 by decide, if_false, if_true, sallows_ev, bz_t hR, lc_get (show 4 < 54 by decide), lc_upd (show 4 < 54 by decide), show ¬ (2 : Int32) = 0 by decide, show ¬ (2 : Int32) = 1 by decide]
      · unfold f_X9_air f_X9_air_24 f_X9_air_52
        have e := @swaps_ev fu τ m0 (nI y) 4 (by decide)
        rw [show nI 4 = (4 : Int32) from rfl, hτ.l (show 4 < 16 by decide)] at e
        simp only [doI_some, doV_some, seqM_eq, chk_t, show ¬ (1 : Int32) = 0 by decide, if_false, if_true, in_ev, bz_t hR, bz_t (show inR (2 : Int32) 0 2 by decide), e, show ¬ (2 : Int32) = 0 by decide, show ¬ (2 : Int32) = 1 by decide]
    · refine rr_same (r := -1000000001) hk hw ?_ (fun τ hτ m0 => ?_)
      · unfold f_X8_air
        simp only [doI_some, doV_some, seqM_eq, chk_t, show ¬ (1 : Int32) = 0 by decide, if_false, if_true, sallows_ev, bz_f hR, show ¬ (2 : Int32) = 0 by decide, show ¬ (2 : Int32) = 1 by decide]
      · unfold f_X9_air f_X9_air_24
        simp only [doI_some, doV_some, seqM_eq, chk_t, show ¬ (1 : Int32) = 0 by decide, if_false, if_true, in_ev, bz_f hR, bz_t (show inR (2 : Int32) 0 2 by decide), show ¬ (2 : Int32) = 0 by decide, show ¬ (2 : Int32) = 1 by decide]
  · have hno : ¬ inR x1 0 2 := not_inR (a := 0) (b := 2) (by decide) (by decide) (fun k q1 q2 => by
      rcases (show k = 0 ∨ k = 1 ∨ k = 2 by omega) with rfl | rfl | rfl
      · exact e0
      · exact e1
      · exact e2)
    refine rr_same (r := -1000000001) hk hw ?_ (fun τ hτ m0 => ?_)
    · unfold f_X8_air
      simp only [doI_some, doV_some, seqM_eq, chk_t, show ¬ (1 : Int32) = 0 by decide, if_false, if_true, sallows_ev, e0, e1, e2]
    · unfold f_X9_air
      simp only [doI_some, doV_some, seqM_eq, chk_t, show ¬ (1 : Int32) = 0 by decide, if_false, if_true, in_ev, bz_f hno]
theorem op_studio (hf : 96 < fu) (hI : Inv m) : Op (f_X8_studio fu x1) (f_X9_studio fu x1) m := by
  refine op_row hI (fun n N σ X hc ht hk hw => ?_)
  have h1 := hk.1
  have hn := hk.2.1
  by_cases e0 : x1 = 0
  · subst e0
    refine rr_same (r := σ 5) hk hw ?_ (fun τ hτ m0 => ?_)
    · unfold f_X8_studio
      simp only [doI_some, doV_some, seqM_eq, chk_t, show ¬ (1 : Int32) = 0 by decide, if_false, if_true, lc_get (show 5 < 54 by decide), show ¬ (0 : Int32) = 1 by decide, show ¬ (0 : Int32) = 2 by decide, show ¬ (0 : Int32) = 3 by decide, show ¬ (0 : Int32) = 4 by decide, show ¬ (0 : Int32) = 5 by decide, show ¬ (0 : Int32) = 6 by decide, show ¬ (0 : Int32) = 7 by decide, show ¬ (0 : Int32) = 8 by decide, show ¬ (0 : Int32) = 9 by decide, show ¬ (0 : Int32) = 10 by decide]
    · unfold f_X9_studio
      simp only [doI_some, doV_some, seqM_eq, chk_t, show ¬ (1 : Int32) = 0 by decide, if_false, if_true, in_ev, bz_t (show inR (0 : Int32) 0 10 by decide), show inb ((5 : Int32) + 0) 1423 = true by decide, show 4000 + 1500 * 0 + ((5 : Int32) + 0).toNatClampNeg = 4005 by decide, lm_5, hτ.l (show 5 < 16 by decide), show ¬ (0 : Int32) = 1 by decide, show ¬ (0 : Int32) = 2 by decide, show ¬ (0 : Int32) = 3 by decide, show ¬ (0 : Int32) = 4 by decide, show ¬ (0 : Int32) = 5 by decide, show ¬ (0 : Int32) = 6 by decide, show ¬ (0 : Int32) = 7 by decide, show ¬ (0 : Int32) = 8 by decide, show ¬ (0 : Int32) = 9 by decide, show ¬ (0 : Int32) = 10 by decide]
  by_cases e1 : x1 = 1
  · subst e1
    refine rr_same (r := σ 6) hk hw ?_ (fun τ hτ m0 => ?_)
    · unfold f_X8_studio
      simp only [doI_some, doV_some, seqM_eq, chk_t, show ¬ (1 : Int32) = 0 by decide, if_false, if_true, lc_get (show 6 < 54 by decide), show ¬ (1 : Int32) = 0 by decide, show ¬ (1 : Int32) = 2 by decide, show ¬ (1 : Int32) = 3 by decide, show ¬ (1 : Int32) = 4 by decide, show ¬ (1 : Int32) = 5 by decide, show ¬ (1 : Int32) = 6 by decide, show ¬ (1 : Int32) = 7 by decide, show ¬ (1 : Int32) = 8 by decide, show ¬ (1 : Int32) = 9 by decide, show ¬ (1 : Int32) = 10 by decide]
    · unfold f_X9_studio
      simp only [doI_some, doV_some, seqM_eq, chk_t, show ¬ (1 : Int32) = 0 by decide, if_false, if_true, in_ev, bz_t (show inR (1 : Int32) 0 10 by decide), show inb ((5 : Int32) + 1) 1423 = true by decide, show 4000 + 1500 * 0 + ((5 : Int32) + 1).toNatClampNeg = 4006 by decide, lm_6, hτ.l (show 6 < 16 by decide), show ¬ (1 : Int32) = 0 by decide, show ¬ (1 : Int32) = 2 by decide, show ¬ (1 : Int32) = 3 by decide, show ¬ (1 : Int32) = 4 by decide, show ¬ (1 : Int32) = 5 by decide, show ¬ (1 : Int32) = 6 by decide, show ¬ (1 : Int32) = 7 by decide, show ¬ (1 : Int32) = 8 by decide, show ¬ (1 : Int32) = 9 by decide, show ¬ (1 : Int32) = 10 by decide]
  by_cases e2 : x1 = 2
  · subst e2
    refine rr_same (r := σ 7) hk hw ?_ (fun τ hτ m0 => ?_)
    · unfold f_X8_studio
      simp only [doI_some, doV_some, seqM_eq, chk_t, show ¬ (1 : Int32) = 0 by decide, if_false, if_true, lc_get (show 7 < 54 by decide), show ¬ (2 : Int32) = 0 by decide, show ¬ (2 : Int32) = 1 by decide, show ¬ (2 : Int32) = 3 by decide, show ¬ (2 : Int32) = 4 by decide, show ¬ (2 : Int32) = 5 by decide, show ¬ (2 : Int32) = 6 by decide, show ¬ (2 : Int32) = 7 by decide, show ¬ (2 : Int32) = 8 by decide, show ¬ (2 : Int32) = 9 by decide, show ¬ (2 : Int32) = 10 by decide]
    · unfold f_X9_studio
      simp only [doI_some, doV_some, seqM_eq, chk_t, show ¬ (1 : Int32) = 0 by decide, if_false, if_true, in_ev, bz_t (show inR (2 : Int32) 0 10 by decide), show inb ((5 : Int32) + 2) 1423 = true by decide, show 4000 + 1500 * 0 + ((5 : Int32) + 2).toNatClampNeg = 4007 by decide, lm_7, hτ.l (show 7 < 16 by decide), show ¬ (2 : Int32) = 0 by decide, show ¬ (2 : Int32) = 1 by decide, show ¬ (2 : Int32) = 3 by decide, show ¬ (2 : Int32) = 4 by decide, show ¬ (2 : Int32) = 5 by decide, show ¬ (2 : Int32) = 6 by decide, show ¬ (2 : Int32) = 7 by decide, show ¬ (2 : Int32) = 8 by decide, show ¬ (2 : Int32) = 9 by decide, show ¬ (2 : Int32) = 10 by decide]
  by_cases e3 : x1 = 3
  · subst e3
    refine rr_same (r := σ 8) hk hw ?_ (fun τ hτ m0 => ?_)
    · unfold f_X8_studio
      simp only [doI_some, doV_some, seqM_eq, chk_t, show ¬ (1 : Int32) = 0 by decide, if_false, if_true, lc_get (show 8 < 54 by decide), show ¬ (3 : Int32) = 0 by decide, show ¬ (3 : Int32) = 1 by decide, show ¬ (3 : Int32) = 2 by decide, show ¬ (3 : Int32) = 4 by decide, show ¬ (3 : Int32) = 5 by decide, show ¬ (3 : Int32) = 6 by decide, show ¬ (3 : Int32) = 7 by decide, show ¬ (3 : Int32) = 8 by decide, show ¬ (3 : Int32) = 9 by decide, show ¬ (3 : Int32) = 10 by decide]
    · unfold f_X9_studio
      simp only [doI_some, doV_some, seqM_eq, chk_t, show ¬ (1 : Int32) = 0 by decide, if_false, if_true, in_ev, bz_t (show inR (3 : Int32) 0 10 by decide), show inb ((5 : Int32) + 3) 1423 = true by decide, show 4000 + 1500 * 0 + ((5 : Int32) + 3).toNatClampNeg = 4008 by decide, lm_8, hτ.l (show 8 < 16 by decide), show ¬ (3 : Int32) = 0 by decide, show ¬ (3 : Int32) = 1 by decide, show ¬ (3 : Int32) = 2 by decide, show ¬ (3 : Int32) = 4 by decide, show ¬ (3 : Int32) = 5 by decide, show ¬ (3 : Int32) = 6 by decide, show ¬ (3 : Int32) = 7 by decide, show ¬ (3 : Int32) = 8 by decide, show ¬ (3 : Int32) = 9 by decide, show ¬ (3 : Int32) = 10 by decide]
  by_cases e4 : x1 = 4
  · subst e4
    refine rr_same (r := σ 9) hk hw ?_ (fun τ hτ m0 => ?_)
    · unfold f_X8_studio
      simp only [doI_some, doV_some, seqM_eq, chk_t, show ¬ (1 : Int32) = 0 by decide, if_false, if_true, lc_get (show 9 < 54 by decide), show ¬ (4 : Int32) = 0 by decide, show ¬ (4 : Int32) = 1 by decide, show ¬ (4 : Int32) = 2 by decide, show ¬ (4 : Int32) = 3 by decide, show ¬ (4 : Int32) = 5 by decide, show ¬ (4 : Int32) = 6 by decide, show ¬ (4 : Int32) = 7 by decide, show ¬ (4 : Int32) = 8 by decide, show ¬ (4 : Int32) = 9 by decide, show ¬ (4 : Int32) = 10 by decide]
    · unfold f_X9_studio
      simp only [doI_some, doV_some, seqM_eq, chk_t, show ¬ (1 : Int32) = 0 by decide, if_false, if_true, in_ev, bz_t (show inR (4 : Int32) 0 10 by decide), show inb ((5 : Int32) + 4) 1423 = true by decide, show 4000 + 1500 * 0 + ((5 : Int32) + 4).toNatClampNeg = 4009 by decide, lm_9, hτ.l (show 9 < 16 by decide), show ¬ (4 : Int32) = 0 by decide, show ¬ (4 : Int32) = 1 by decide, show ¬ (4 : Int32) = 2 by decide, show ¬ (4 : Int32) = 3 by decide, show ¬ (4 : Int32) = 5 by decide, show ¬ (4 : Int32) = 6 by decide, show ¬ (4 : Int32) = 7 by decide, show ¬ (4 : Int32) = 8 by decide, show ¬ (4 : Int32) = 9 by decide, show ¬ (4 : Int32) = 10 by decide]
  by_cases e5 : x1 = 5
  · subst e5
    refine rr_same (r := σ 10) hk hw ?_ (fun τ hτ m0 => ?_)
    · unfold f_X8_studio
      simp only [doI_some, doV_some, seqM_eq, chk_t, show ¬ (1 : Int32) = 0 by decide, if_false, if_true, lc_get (show 10 < 54 by decide), show ¬ (5 : Int32) = 0 by decide, show ¬ (5 : Int32) = 1 by decide, show ¬ (5 : Int32) = 2 by decide, show ¬ (5 : Int32) = 3 by decide, show ¬ (5 : Int32) = 4 by decide, show ¬ (5 : Int32) = 6 by decide, show ¬ (5 : Int32) = 7 by decide, show ¬ (5 : Int32) = 8 by decide, show ¬ (5 : Int32) = 9 by decide, show ¬ (5 : Int32) = 10 by decide]
    · unfold f_X9_studio
      simp only [doI_some, doV_some, seqM_eq, chk_t, show ¬ (1 : Int32) = 0 by decide, if_false, if_true, in_ev, bz_t (show inR (5 : Int32) 0 10 by decide), show inb ((5 : Int32) + 5) 1423 = true by decide, show 4000 + 1500 * 0 + ((5 : Int32) + 5).toNatClampNeg = 4010 by decide, lm_10, hτ.l (show 10 < 16 by decide), show ¬ (5 : Int32) = 0 by decide, show ¬ (5 : Int32) = 1 by decide, show ¬ (5 : Int32) = 2 by decide, show ¬ (5 : Int32) = 3 by decide, show ¬ (5 : Int32) = 4 by decide, show ¬ (5 : Int32) = 6 by decide, show ¬ (5 : Int32) = 7 by decide, show ¬ (5 : Int32) = 8 by decide, show ¬ (5 : Int32) = 9 by decide, show ¬ (5 : Int32) = 10 by decide]
  by_cases e6 : x1 = 6
  · subst e6
    refine rr_same (r := σ 11) hk hw ?_ (fun τ hτ m0 => ?_)
    · unfold f_X8_studio
      simp only [doI_some, doV_some, seqM_eq, chk_t, show ¬ (1 : Int32) = 0 by decide, if_false, if_true, lc_get (show 11 < 54 by decide), show ¬ (6 : Int32) = 0 by decide, show ¬ (6 : Int32) = 1 by decide, show ¬ (6 : Int32) = 2 by decide, show ¬ (6 : Int32) = 3 by decide, show ¬ (6 : Int32) = 4 by decide, show ¬ (6 : Int32) = 5 by decide, show ¬ (6 : Int32) = 7 by decide, show ¬ (6 : Int32) = 8 by decide, show ¬ (6 : Int32) = 9 by decide, show ¬ (6 : Int32) = 10 by decide]
    · unfold f_X9_studio
      simp only [doI_some, doV_some, seqM_eq, chk_t, show ¬ (1 : Int32) = 0 by decide, if_false, if_true, in_ev, bz_t (show inR (6 : Int32) 0 10 by decide), show inb ((5 : Int32) + 6) 1423 = true by decide, show 4000 + 1500 * 0 + ((5 : Int32) + 6).toNatClampNeg = 4011 by decide, lm_11, hτ.l (show 11 < 16 by decide), show ¬ (6 : Int32) = 0 by decide, show ¬ (6 : Int32) = 1 by decide, show ¬ (6 : Int32) = 2 by decide, show ¬ (6 : Int32) = 3 by decide, show ¬ (6 : Int32) = 4 by decide, show ¬ (6 : Int32) = 5 by decide, show ¬ (6 : Int32) = 7 by decide, show ¬ (6 : Int32) = 8 by decide, show ¬ (6 : Int32) = 9 by decide, show ¬ (6 : Int32) = 10 by decide]
  by_cases e7 : x1 = 7
  · subst e7
    refine rr_same (r := σ 12) hk hw ?_ (fun τ hτ m0 => ?_)
    · unfold f_X8_studio
      simp only [doI_some, doV_some, seqM_eq, chk_t, show ¬ (1 : Int32) = 0 by decide, if_false, if_true, lc_get (show 12 < 54 by decide), show ¬ (7 : Int32) = 0 by decide, show ¬ (7 : Int32) = 1 by decide, show ¬ (7 : Int32) = 2 by decide, show ¬ (7 : Int32) = 3 by decide, show ¬ (7 : Int32) = 4 by decide, show ¬ (7 : Int32) = 5 by decide, show ¬ (7 : Int32) = 6 by decide, show ¬ (7 : Int32) = 8 by decide, show ¬ (7 : Int32) = 9 by decide, show ¬ (7 : Int32) = 10 by decide]
    · unfold f_X9_studio
      simp only [doI_some, doV_some, seqM_eq, chk_t, show ¬ (1 : Int32) = 0 by decide, if_false, if_true, in_ev, bz_t (show inR (7 : Int32) 0 10 by decide), show inb ((5 : Int32) + 7) 1423 = true by decide, show 4000 + 1500 * 0 + ((5 : Int32) + 7).toNatClampNeg = 4012 by decide, lm_12, hτ.l (show 12 < 16 by decide), show ¬ (7 : Int32) = 0 by decide, show ¬ (7 : Int32) = 1 by decide, show ¬ (7 : Int32) = 2 by decide, show ¬ (7 : Int32) = 3 by decide, show ¬ (7 : Int32) = 4 by decide, show ¬ (7 : Int32) = 5 by decide, show ¬ (7 : Int32) = 6 by decide, show ¬ (7 : Int32) = 8 by decide, show ¬ (7 : Int32) = 9 by decide, show ¬ (7 : Int32) = 10 by decide]
  by_cases e8 : x1 = 8
  · subst e8
    refine rr_same (r := σ 13) hk hw ?_ (fun τ hτ m0 => ?_)
    · unfold f_X8_studio
      simp only [doI_some, doV_some, seqM_eq, chk_t, show ¬ (1 : Int32) = 0 by decide, if_false, if_true, lc_get (show 13 < 54 by decide), show ¬ (8 : Int32) = 0 by decide, show ¬ (8 : Int32) = 1 by decide, show ¬ (8 : Int32) = 2 by decide, show ¬ (8 : Int32) = 3 by decide, show ¬ (8 : Int32) = 4 by decide, show ¬ (8 : Int32) = 5 by decide, show ¬ (8 : Int32) = 6 by decide, show ¬ (8 : Int32) = 7 by decide, show ¬ (8 : Int32) = 9 by decide, show ¬ (8 : Int32) = 10 by decide]
    · unfold f_X9_studio
      simp only [doI_some, doV_some, seqM_eq, chk_t, show ¬ (1 : Int32) = 0 by decide, if_false, if_true, in_ev, bz_t (show inR (8 : Int32) 0 10 by decide), show inb ((5 : Int32) + 8) 1423 = true by decide, show 4000 + 1500 * 0 + ((5 : Int32) + 8).toNatClampNeg = 4013 by decide, lm_13, hτ.l (show 13 < 16 by decide), show ¬ (8 : Int32) = 0 by decide, show ¬ (8 : Int32) = 1 by decide, show ¬ (8 : Int32) = 2 by decide, show ¬ (8 : Int32) = 3 by decide, show ¬ (8 : Int32) = 4 by decide, show ¬ (8 : Int32) = 5 by decide, show ¬ (8 : Int32) = 6 by decide, show ¬ (8 : Int32) = 7 by decide, show ¬ (8 : Int32) = 9 by decide, show ¬ (8 : Int32) = 10 by decide]
  by_cases e9 : x1 = 9
  · subst e9
    refine rr_same (r := σ 14) hk hw ?_ (fun τ hτ m0 => ?_)
    · unfold f_X8_studio
      simp only [doI_some, doV_some, seqM_eq, chk_t, show ¬ (1 : Int32) = 0 by decide, if_false, if_true, lc_get (show 14 < 54 by decide), show ¬ (9 : Int32) = 0 by decide, show ¬ (9 : Int32) = 1 by decide, show ¬ (9 : Int32) = 2 by decide, show ¬ (9 : Int32) = 3 by decide, show ¬ (9 : Int32) = 4 by decide, show ¬ (9 : Int32) = 5 by decide, show ¬ (9 : Int32) = 6 by decide, show ¬ (9 : Int32) = 7 by decide, show ¬ (9 : Int32) = 8 by decide, show ¬ (9 : Int32) = 10 by decide]
    · unfold f_X9_studio
      simp only [doI_some, doV_some, seqM_eq, chk_t, show ¬ (1 : Int32) = 0 by decide, if_false, if_true, in_ev, bz_t (show inR (9 : Int32) 0 10 by decide), show inb ((5 : Int32) + 9) 1423 = true by decide, show 4000 + 1500 * 0 + ((5 : Int32) + 9).toNatClampNeg = 4014 by decide, lm_14, hτ.l (show 14 < 16 by decide), show ¬ (9 : Int32) = 0 by decide, show ¬ (9 : Int32) = 1 by decide, show ¬ (9 : Int32) = 2 by decide, show ¬ (9 : Int32) = 3 by decide, show ¬ (9 : Int32) = 4 by decide, show ¬ (9 : Int32) = 5 by decide, show ¬ (9 : Int32) = 6 by decide, show ¬ (9 : Int32) = 7 by decide, show ¬ (9 : Int32) = 8 by decide, show ¬ (9 : Int32) = 10 by decide]
  by_cases e10 : x1 = 10
  · subst e10
    refine rr_same (r := nI (speakN σ n)) hk hw ?_ (fun τ hτ m0 => ?_)
    · unfold f_X8_studio
      simp only [doI_some, doV_some, seqM_eq, chk_t, show ¬ (1 : Int32) = 0 by decide, if_false, if_true, cspeak_ev hn (show 5 < fu by omega) h1, show ¬ (10 : Int32) = 0 by decide, show ¬ (10 : Int32) = 1 by decide, show ¬ (10 : Int32) = 2 by decide, show ¬ (10 : Int32) = 3 by decide, show ¬ (10 : Int32) = 4 by decide, show ¬ (10 : Int32) = 5 by decide, show ¬ (10 : Int32) = 6 by decide, show ¬ (10 : Int32) = 7 by decide, show ¬ (10 : Int32) = 8 by decide, show ¬ (10 : Int32) = 9 by decide]
    · unfold f_X9_studio
      simp only [doI_some, doV_some, seqM_eq, chk_t, show ¬ (1 : Int32) = 0 by decide, if_false, if_true, in_ev, bz_t (show inR (10 : Int32) 0 10 by decide), mspeak_ev hn ((hτ.l (by decide)).trans h1) (show 5 < fu by omega), hτ.speak n (Nat.le_refl _)]
  · have hno : ¬ inR x1 0 10 := not_inR (a := 0) (b := 10) (by decide) (by decide) (fun k q1 q2 => by
      rcases (show k = 0 ∨ k = 1 ∨ k = 2 ∨ k = 3 ∨ k = 4 ∨ k = 5 ∨ k = 6 ∨ k = 7 ∨ k = 8 ∨ k = 9 ∨ k = 10 by omega) with rfl | rfl | rfl | rfl | rfl | rfl | rfl | rfl | rfl | rfl | rfl
      · exact e0
      · exact e1
      · exact e2
      · exact e3
      · exact e4
      · exact e5
      · exact e6
      · exact e7
      · exact e8
      · exact e9
      · exact e10)
    refine rr_same (r := -1000000001) hk hw ?_ (fun τ hτ m0 => ?_)
    · unfold f_X8_studio
      simp only [doI_some, doV_some, seqM_eq, chk_t, show ¬ (1 : Int32) = 0 by decide, if_false, if_true, e0, e1, e2, e3, e4, e5, e6, e7, e8, e9, e10]
    · unfold f_X9_studio
      simp only [doI_some, doV_some, seqM_eq, chk_t, show ¬ (1 : Int32) = 0 by decide, if_false, if_true, in_ev, bz_f hno]
/-! a voice comes -/
def seatS (σ : Row) (n : Nat) (k w t : Int32) : Row := upd (upd (upd (upd (upd (upd (upd (upd σ (ps n 0) k) (ps n 1) w) (ps n 2) t) (ps n 3) 0) (ps n 4) 0) (ps n 5) 0) (ps n 6) 0) 1 (σ 1 + 1)
theorem chasRoom_ev (h1 : σ 1 = nI n) (hn : n ≤ 5) : f_X4_hasRoom fu 0 (lay (70 * 0) 54 σ m) = some (bz (n < 5), lay (70 * 0) 54 σ m) := by
  unfold f_X4_hasRoom
  rw [lc_get (by decide), h1]
  by_cases h : n < 5
  · rw [if_neg (by rw [show (5 : Int32) = nI 5 from rfl]; exact nI_ge h (by decide)), bz_t h]
  · rw [if_pos (by rw [show (5 : Int32) = nI 5 from rfl]; exact nI_le (by omega) (by omega)), bz_f h]
theorem cseat_ev (h1 : σ 1 = nI n) (hn : n < 5) {k w y : Int32} : f_X4_seat fu 0 k w y (lay (70 * 0) 54 σ m) = some (nI n, lay (70 * 0) 54 (seatS σ n k w y) m) := by
  unfold f_X4_seat seatS
  simp only [lc_get (show 1 < 54 by decide), h1, doI_some, doV_some, seqM_eq, chk_t, inb_nI hn (show 5 < 2 ^ 31 by decide), nI_clamp (show n < 2 ^ 31 by omega), lc_vupd hn (show 0 < 7 by decide), lc_vupd hn (show 1 < 7 by decide), lc_vupd hn (show 2 < 7 by decide), lc_vupd hn (show 3 < 7 by decide), lc_vupd hn (show 4 < 7 by decide), lc_vupd hn (show 5 < 7 by decide), lc_vupd hn (show 6 < 7 by decide), lc_upd (show 1 < 54 by decide)]
  have p : ∀ j, 1 ≠ ps n j := fun j => by have := @ps_ge n j; omega
  rw [pk_un (p 6), pk_un (p 5), pk_un (p 4), pk_un (p 3), pk_un (p 2), pk_un (p 1), pk_un (p 0), h1]
def zeroN (σ : Row) (v : Nat) : Nat → Row
  | 0 => σ
  | i + 1 => upd (zeroN σ v i) (ps v i) 0
theorem zeroN_get {q : Nat} : ∀ i, zeroN σ v i q = if ps v 0 ≤ q ∧ q < ps v 0 + i then 0 else σ q := by
  intro i
  induction i with
  | zero => rw [if_neg (by omega)]; rfl
  | succ i ih =>
    rw [zeroN]
    unfold upd
    rw [ih]
    have e : ps v i = ps v 0 + i := by unfold ps; omega
    by_cases h : q = ps v i
    · rw [if_pos h, if_pos (by omega)]
    · rw [if_neg h]
      by_cases h2 : ps v 0 ≤ q ∧ q < ps v 0 + i
      · rw [if_pos h2, if_pos (by omega)]
      · rw [if_neg h2, if_neg (by omega)]
theorem mcomes_L (hv : v < 5) {k w y : Int32} : ∀ (f i : Nat), i ≤ 7 → 7 - i < f → f_X9_comes_21 fu f k w y (nI v) (nI i) (lay 4000 51 (zeroN σ v i) m) = some (nI v, lay 4000 51 (upd (upd (upd (zeroN σ v 7) (ps v 0) k) (ps v 1) w) (ps v 2) y) m) := by
  intro f
  induction f with
  | zero => intro i _ h; omega
  | succ f ih =>
    intro i hi hf
    rw [f_X9_comes_21]
    by_cases he : i = 7
    · subst he
      rw [if_pos (by decide)]
      simp only [put_0 hv, put_1 hv, put_2 hv, doI_some, doV_some, seqM_eq, chk_t]
    · rw [if_neg (by rw [show (7 : Int32) = nI 7 from rfl]; exact nI_ge (by omega) (by decide)), put_ev hv (by omega)]
      simp only [doI_some, doV_some, seqM_eq, chk_t, nI_1]
      exact ih (i + 1) (by omega) (by omega)
theorem mcomes_ev (h1 : σ 1 = nI n) (hn : n < 5) (hf : 7 < fu) {k w y : Int32} : f_X9_comes fu k w y (lay 4000 51 σ m) = some (nI n, lay 4000 51 (seatS σ n k w y) m) := by
  unfold f_X9_comes
  simp only [Nat.reduceMul, Nat.reduceAdd, Int32.reduceToNatClampNeg, lm_1, lmu_1, h1, doI_some, doV_some, seqM_eq, chk_t]
  have := mcomes_L (fu := fu) (σ := upd σ 1 (nI n + 1)) (m := m) hn (k := k) (w := w) (y := y) fu 0 (by decide) (by omega)
  rw [zeroN] at this
  rw [show (0 : Int32) = nI 0 from rfl, this]
  congr 3
  unfold seatS
  funext q
  simp only [upd, zeroN_get, h1]
  have e : ∀ j, ps n j = ps n 0 + j := fun j => by unfold ps; omega
  have g := @ps_ge n 0
  simp only [e 1, e 2, e 3, e 4, e 5, e 6]
  generalize ps n 0 = b at g
  repeat' split
  all_goals first | rfl | omega
theorem seatS_ROK {k w y : Nat} (hk : ROK 9999 n σ) (hw : WOK n σ) (hn : n < 5) (h1 : k < 6) (h2 : 1 ≤ w) (h3 : w ≤ 60) (h4 : 1 ≤ y) (h5 : y ≤ 60) : ROK 9999 (n + 1) (seatS σ n (nI k) (nI w) (nI y)) ∧ WOK (n + 1) (seatS σ n (nI k) (nI w) (nI y)) := by
  obtain ⟨a, b, c, d⟩ := hk
  have low : ∀ q, q < 16 → q ≠ 1 → seatS σ n (nI k) (nI w) (nI y) q = σ q := by
    intro q hq hq1
    unfold seatS
    have p : ∀ j, q ≠ ps n j := fun j => by have := @ps_ge n j; omega
    rw [pk_un hq1, pk_un (p 6), pk_un (p 5), pk_un (p 4), pk_un (p 3), pk_un (p 2), pk_un (p 1), pk_un (p 0)]
  have oth : ∀ u j, j < 7 → u ≠ n → seatS σ n (nI k) (nI w) (nI y) (ps u j) = σ (ps u j) := by
    intro u j hj hu
    unfold seatS
    have p : ∀ i, i < 7 → ps u j ≠ ps n i := fun i hi z => hu (ps_inj hj hi z).1
    rw [pk_un (by have := @ps_ge u j; omega), pk_un (p 6 (by decide)), pk_un (p 5 (by decide)), pk_un (p 4 (by decide)), pk_un (p 3 (by decide)), pk_un (p 2 (by decide)), pk_un (p 1 (by decide)), pk_un (p 0 (by decide))]
  have own : ∀ j, ps n j ≠ 1 := fun j => by have := @ps_ge n j; omega
  have ne : ∀ i j, i < 7 → j < 7 → i ≠ j → ps n i ≠ ps n j := fun i j hi hj h => ps_ne hi hj h
  have o0 : seatS σ n (nI k) (nI w) (nI y) (ps n 0) = nI k := by
    unfold seatS
    rw [pk_un (own 0), pk_un (ne 0 6 (by decide) (by decide) (by decide)), pk_un (ne 0 5 (by decide) (by decide) (by decide)), pk_un (ne 0 4 (by decide) (by decide) (by decide)), pk_un (ne 0 3 (by decide) (by decide) (by decide)), pk_un (ne 0 2 (by decide) (by decide) (by decide)), pk_un (ne 0 1 (by decide) (by decide) (by decide)), pk_us]
  have o1 : seatS σ n (nI k) (nI w) (nI y) (ps n 1) = nI w := by
    unfold seatS
    rw [pk_un (own 1), pk_un (ne 1 6 (by decide) (by decide) (by decide)), pk_un (ne 1 5 (by decide) (by decide) (by decide)), pk_un (ne 1 4 (by decide) (by decide) (by decide)), pk_un (ne 1 3 (by decide) (by decide) (by decide)), pk_un (ne 1 2 (by decide) (by decide) (by decide)), pk_us]
  have o2 : seatS σ n (nI k) (nI w) (nI y) (ps n 2) = nI y := by
    unfold seatS
    rw [pk_un (own 2), pk_un (ne 2 6 (by decide) (by decide) (by decide)), pk_un (ne 2 5 (by decide) (by decide) (by decide)), pk_un (ne 2 4 (by decide) (by decide) (by decide)), pk_un (ne 2 3 (by decide) (by decide) (by decide)), pk_us]
  have o3 : seatS σ n (nI k) (nI w) (nI y) (ps n 3) = 0 := by
    unfold seatS
    rw [pk_un (own 3), pk_un (ne 3 6 (by decide) (by decide) (by decide)), pk_un (ne 3 5 (by decide) (by decide) (by decide)), pk_un (ne 3 4 (by decide) (by decide) (by decide)), pk_us]
  have o4 : seatS σ n (nI k) (nI w) (nI y) (ps n 4) = 0 := by
    unfold seatS
    rw [pk_un (own 4), pk_un (ne 4 6 (by decide) (by decide) (by decide)), pk_un (ne 4 5 (by decide) (by decide) (by decide)), pk_us]
  have o5 : seatS σ n (nI k) (nI w) (nI y) (ps n 5) = 0 := by
    unfold seatS
    rw [pk_un (own 5), pk_un (ne 5 6 (by decide) (by decide) (by decide)), pk_us]
  refine ⟨⟨by unfold seatS; rw [pk_us, a, nI_1], by omega, fun u hu => ?_, ?_⟩, fun u hu => ?_⟩
  · by_cases e : u = n
    · subst e
      unfold VOK
      rw [o0, o1, o2, o3, o4, o5]
      exact ⟨⟨k, h1, rfl⟩, ⟨w, h2, by omega, rfl⟩, ⟨y, h4, h5, rfl⟩, ⟨0, by decide, rfl⟩, ⟨0, by decide, rfl⟩, 0, by decide, rfl⟩
    · exact (c u (by omega)).congr (fun j hj => oth u j (by omega) e)
  · unfold SCA
    rw [low 5 (by decide) (by decide), low 2 (by decide) (by decide), low 6 (by decide) (by decide), low 8 (by decide) (by decide), low 12 (by decide) (by decide)]
    exact d
  · by_cases e : u = n
    · subst e
      rw [o1]
      exact ⟨w, h2, h3, rfl⟩
    · rw [oth u 1 (by decide) e]
      exact hw u (by omega)
theorem seatS_hi {k w y : Int32} {q : Nat} (hn : n < 5) (hq : q = 15 ∨ 51 ≤ q) : seatS σ n k w y q = σ q := by
  unfold seatS
  have p : ∀ j, j < 7 → q ≠ ps n j := fun j hj => by unfold ps; omega
  rw [pk_un (by omega), pk_un (p 6 (by decide)), pk_un (p 5 (by decide)), pk_un (p 4 (by decide)), pk_un (p 3 (by decide)), pk_un (p 2 (by decide)), pk_un (p 1 (by decide)), pk_un (p 0 (by decide))]
theorem Lv.seat {σ τ : Row} {k w y : Int32} (h : Lv n σ τ) : Lv (n + 1) (seatS σ n k w y) (seatS τ n k w y) := by
  intro q hq
  unfold seatS
  rw [h.l (show 1 < 16 by decide)]
  by_cases hn : q < 16 + 7 * n
  · have h2 : Lv n (upd (upd (upd (upd (upd (upd (upd (upd σ (ps n 0) k) (ps n 1) w) (ps n 2) y) (ps n 3) 0) (ps n 4) 0) (ps n 5) 0) (ps n 6) 0) 1 (σ 1 + 1)) (upd (upd (upd (upd (upd (upd (upd (upd τ (ps n 0) k) (ps n 1) w) (ps n 2) y) (ps n 3) 0) (ps n 4) 0) (ps n 5) 0) (ps n 6) 0) 1 (σ 1 + 1)) := h.up.up.up.up.up.up.up.up
    exact h2 q hn
  · unfold upd ps
    rcases (show q = 16 + 7 * n + 0 ∨ q = 16 + 7 * n + 1 ∨ q = 16 + 7 * n + 2 ∨ q = 16 + 7 * n + 3 ∨ q = 16 + 7 * n + 4 ∨ q = 16 + 7 * n + 5 ∨ q = 16 + 7 * n + 6 by omega) with rfl | rfl | rfl | rfl | rfl | rfl | rfl <;> simp
theorem op_voice (hf : 96 < fu) (hI : Inv m) : Op (f_X8_voice fu x1 x2 x3) (f_X9_voice fu x1 x2 x3) m := by
  refine op_row hI (fun n N σ X hc ht hk hw => ?_)
  have h1 := hk.1
  have hn := hk.2.1
  by_cases hA : inR x1 0 5
  · by_cases hB : inR x2 1 60
    · by_cases hC : inR x3 1 60
      · by_cases hr : n < 5
        · obtain ⟨k, -, k5, rfl⟩ := inR_nI (a := 0) (b := 5) (by decide) (by decide) hA
          obtain ⟨w, w1, w2, rfl⟩ := inR_nI (a := 1) (b := 60) (by decide) (by decide) hB
          obtain ⟨y, y1, y2, rfl⟩ := inR_nI (a := 1) (b := 60) (by decide) (by decide) hC
          obtain ⟨q1, q2⟩ := seatS_ROK hk hw hr (show k < 6 by omega) w1 w2 y1 y2
          refine ⟨nI n, n + 1, _, q1, q2, seatS_hi hr (Or.inl rfl), fun key _ => seatS_hi hr (Or.inr (by omega)), ⟨m, fr_nil, ?_⟩, fun τ hτ m0 _ => ⟨seatS τ n (nI k) (nI w) (nI y), m0, hτ.seat, fr_nil, ?_⟩⟩
          · unfold f_X8_voice
            simp only [isKind_ev, bz_t hA, callows_ev, bz_t hB, bz_t hC, chasRoom_ev h1 hn, bz_t hr, cseat_ev h1 hr, doI_some, doV_some, seqM_eq, chk_t, show ¬ (1 : Int32) = 0 by decide, if_false, if_true, show ¬ (2 : Int32) = 1 by decide]
          · unfold f_X9_voice
            simp only [in_ev, bz_t hA, misOf_ev, bz_t hB, bz_t hC, Nat.reduceMul, Nat.reduceAdd, Int32.reduceToNatClampNeg, lm_1, hτ.l (show 1 < 16 by decide), h1, mcomes_ev ((hτ.l (by decide)).trans h1) hr (show 7 < fu by omega), doI_some, doV_some, seqM_eq, chk_t, show ¬ (1 : Int32) = 0 by decide, if_false, if_true, show ¬ (1 : Int32) = 3 by decide, show ¬ (2 : Int32) = 3 by decide, show ¬ nI n = 5 from fun z => by have := (nI_eq (a := n) (b := 5) (by omega) (by decide)).mp z; omega]
        · have h5 : n = 5 := by omega
          subst h5
          refine rr_same (r := -1000000003) hk hw ?_ (fun τ hτ m0 => ?_)
          · unfold f_X8_voice
            simp only [isKind_ev, bz_t hA, callows_ev, bz_t hB, bz_t hC, chasRoom_ev h1 hn, bz_f hr, doI_some, doV_some, seqM_eq, chk_t, show ¬ (1 : Int32) = 0 by decide, if_false, if_true, show ¬ (2 : Int32) = 1 by decide]
          · unfold f_X9_voice
            simp only [in_ev, bz_t hA, misOf_ev, bz_t hB, bz_t hC, Nat.reduceMul, Nat.reduceAdd, Int32.reduceToNatClampNeg, lm_1, hτ.l (show 1 < 16 by decide), h1, doI_some, doV_some, seqM_eq, chk_t, show ¬ (1 : Int32) = 0 by decide, if_false, if_true, show ¬ (1 : Int32) = 3 by decide, show ¬ (2 : Int32) = 3 by decide, show nI 5 = (5 : Int32) from rfl]
      · refine rr_same (r := -1000000001) hk hw ?_ (fun τ hτ m0 => ?_)
        · unfold f_X8_voice
          simp only [isKind_ev, bz_t hA, callows_ev, bz_t hB, bz_f hC, doI_some, doV_some, seqM_eq, chk_t, show ¬ (1 : Int32) = 0 by decide, if_false, if_true, show ¬ (2 : Int32) = 1 by decide]
        · unfold f_X9_voice
          simp only [in_ev, bz_t hA, misOf_ev, bz_t hB, bz_f hC, doI_some, doV_some, seqM_eq, chk_t, show ¬ (1 : Int32) = 0 by decide, if_false, if_true, show ¬ (1 : Int32) = 3 by decide, show ¬ (2 : Int32) = 3 by decide]
    · refine rr_same (r := -1000000001) hk hw ?_ (fun τ hτ m0 => ?_)
      · unfold f_X8_voice
        simp only [isKind_ev, bz_t hA, callows_ev, bz_f hB, doI_some, doV_some, seqM_eq, chk_t, show ¬ (1 : Int32) = 0 by decide, if_false, if_true]
      · unfold f_X9_voice
        simp only [in_ev, bz_t hA, misOf_ev, bz_f hB, doI_some, doV_some, seqM_eq, chk_t, show ¬ (1 : Int32) = 0 by decide, if_false, if_true, show ¬ (1 : Int32) = 3 by decide]
  · refine rr_same (r := -1000000001) hk hw ?_ (fun τ hτ m0 => ?_)
    · unfold f_X8_voice
      simp only [isKind_ev, bz_f hA, doI_some, doV_some, seqM_eq, chk_t, show ¬ (1 : Int32) = 0 by decide, if_false, if_true]
    · unfold f_X9_voice
      simp only [in_ev, bz_f hA, doI_some, doV_some, seqM_eq, chk_t, show ¬ (1 : Int32) = 0 by decide, if_false, if_true]
end OPB
