/-! PURE: a token where a sign is due -/
section SIGNS
variable {fu f g j n key t du br a h z F : Nat} {b hs : Nat → Nat} {w e : Int32} {c : Row} {m M mc mm : Mem}
theorem rk_word {x : Nat} (hx : x < 256) (h : (97 ≤ x ∧ x ≤ 122) ∨ (48 ≤ x ∧ x ≤ 57)) : rkB x = 0 ∧ ¬ x = 41 := by
  have d : ∀ x, x < 256 → ((97 ≤ x ∧ x ≤ 122) ∨ (48 ≤ x ∧ x ≤ 57)) → rkB x = 0 ∧ ¬ x = 41 := by decide +kernel
  exact d x hx h
theorem csign (hF : F < n) (hx : b F < 256) (h5 : m 285 = nI F) (hT : TpC b n m) : f_X1_takesSign fu m = if b F = 41 then doI (f_X1_closes fu m) (fun r_12 m_11 => chk (isB r_12) (some (r_12, m_11))) else if rkB (b F) < 1 ∨ 6 ≤ rkB (b F) then some (0, m) else f_X1_takesSign_50 fu (nI (b F)) (nI (rkB (b F))) (nI (if rkB (b F) = 3 then 4 else rkB (b F))) m := by
  have hn := hT.1
  have e41 : (nI (b F) = 41) = (b F = 41) := nI_eqP (b := 41) (by omega) (by decide)
  have hr : rkB (b F) ≤ 6 := by
    have d : ∀ x, x < 256 → rkB x ≤ 6 := by decide +kernel
    exact d _ hx
  unfold f_X1_takesSign
  rw [h5, inb_nI (show F < 96 by omega) (by decide), chk_t, nI_clamp (by omega), (hT.2.2 F hF).1, seqM_eq]
  by_cases q : b F = 41
  · rw [if_pos (by rw [e41]; exact q), if_pos q]
  · rw [if_neg (by rw [e41]; exact q), if_neg q, rank_ev hx, doI_some]
    by_cases q1 : rkB (b F) < 1
    · rw [if_pos (by rw [show (1 : Int32) = nI 1 from rfl, nI_ltP (by omega) (by decide)]; exact q1), if_pos (Or.inl q1)]
    · rw [if_neg (by rw [show (1 : Int32) = nI 1 from rfl, nI_ltP (by omega) (by decide)]; exact q1)]
      by_cases q6 : rkB (b F) < 6
      · rw [if_pos (by rw [show (6 : Int32) = nI 6 from rfl, nI_ltP (by omega) (by decide)]; exact q6), if_neg (show ¬ (rkB (b F) < 1 ∨ 6 ≤ rkB (b F)) by omega)]
        by_cases q3 : rkB (b F) = 3
        · rw [if_pos (by rw [q3]; rfl), if_pos q3]
          rfl
        · rw [if_neg (by rw [show (3 : Int32) = nI 3 from rfl, nI_eqP (by omega) (by decide)]; exact q3), if_neg q3]
      · rw [if_neg (by rw [show (6 : Int32) = nI 6 from rfl, nI_ltP (by omega) (by decide)]; exact q6), if_pos (Or.inr (by omega))]
/-- a word or a number where a sign is due -/
theorem at_word0 (hfu : 97 < fu) (hj : j ≤ t) (hF : tF b n t < n) (hw : isLe b (tF b n t) ∨ isFi b (tF b n t)) (he : ¬ nI (tF b n t) = e) (hS : ST b n key t w e 0 br a hs h c z mc mm) : Ends key (f_X1_fault_6 fu (f + 1) (nI j) mc) (f_X9_takesE_28 fu (g + 1) (nI br) (nI (notsN hs (hR hs 0 h))) 0 mm) mc mm := by
  obtain ⟨hP, hG, hC, hM⟩ := hS
  have hn := hC.1.1
  have hk := hP.2.2.2.2.2.2.2.2.1
  obtain ⟨f1, f2⟩ := tF_ok (b := b) hP.1
  obtain ⟨M, d1, d2, d3, d4⟩ := cturn (f := f) hfu hj hF hP hG hC
  obtain ⟨mT, ⟨k0, k1, kL, kF, kS⟩, k8, k10, kH, kT⟩ := hM
  have hx := (mT.2.2 _ hF).2
  obtain ⟨r0, r41⟩ := rk_word hx hw
  have h5 : ¬ mm 3005 = 3 ∧ ¬ mm 3005 = 0 := by
    rcases hw with q | q
    · rw [(kL hF q).1, if_neg he]; decide
    · rw [(kF hF q).1]
      split <;> decide
  rw [d4, if_neg (fun q => he q.2), goes_0 d1 hk, csign hF hx d2 d1.1, if_neg r41, if_pos (Or.inl (by omega))]
  refine both_no hn f2 (L := M) ?_ ?_ k0 d3
  · rw [doI_some, isB_0, chk_t, doI_some, if_pos rfl, d2]
  · rw [r_sign h5.2 (fun q => h5.1 q.1), r_no (sign_off h5.1)]
/-- a bracket that closes -/
theorem at_close (hfu : 97 < fu) (hj : j ≤ t) (hF : tF b n t < n) (h41 : b (tF b n t) = 41) (hS : ST b n key t w e 0 br a hs h c z mc mm) : Ends key (f_X1_fault_6 fu (f + 1) (nI j) mc) (f_X9_takesE_28 fu (g + 1) (nI br) (nI (notsN hs (hR hs 0 h))) 0 mm) mc mm ∨ GoOn fu f g j b n key t (f_X1_fault_6 fu (f + 1) (nI j) mc) (f_X9_takesE_28 fu (g + 1) (nI br) (nI (notsN hs (hR hs 0 h))) 0 mm) mc mm := by
  obtain ⟨hP, hG, hC, hM⟩ := hS
  have hn := hC.1.1
  obtain ⟨f1, f2⟩ := tF_ok (b := b) hP.1
  have hL : ¬ isLe b (tF b n t) := fun q => by unfold isLe at q; omega
  have hD : ¬ isFi b (tF b n t) := fun q => by unfold isFi at q; omega
  obtain ⟨M, d1, d2, d3, d4⟩ := cturn (f := f) hfu hj hF hP hG hC
  obtain ⟨t2, t3⟩ := tok_sg hL hD
  rw [bz_f t2, t3] at d1
  obtain ⟨p0, p1, p2, p3, p4, p5, p6, p7, p8, p9⟩ := hP
  obtain ⟨mT, ⟨k0, k1, kL, kF, kS⟩, k8, k10, kH, kT⟩ := hM
  obtain ⟨l5, l6, l3, l7⟩ := kS hF hL hD
  rw [hR_0] at kH
  have hx := (mT.2.2 _ hF).2
  rw [d4, if_neg (fun q => t2 q.1), goes_0 d1 p8, csign hF hx d2 d1.1, if_pos h41]
  generalize tF b n t = F at *
  obtain ⟨c0, c1, c2, c3, c4, c5, c6, c7⟩ := d1
  rw [h41] at l6
  unfold f_X1_closes
  rw [c5]
  by_cases b0 : br = 0
  · subst b0
    left
    rw [if_neg (by decide)]
    refine both_no hn f2 (L := M) ?_ ?_ k0 d3
    · rw [doI_some, isB_0, chk_t, doI_some, isB_0, chk_t, doI_some, if_pos rfl, d2]
    · rw [r_sign (by rw [l5]; decide) (fun q => q.2.2 (by decide)), r_no (sign_no (x := 41) (by decide) l5 l6 (by decide))]
  · right
    rw [if_pos (by rw [show (1 : Int32) = nI 1 from rfl]; exact nI_le (by omega) (by omega))]
    obtain ⟨M2, s1, s2, s3⟩ := release_ev (r := 1) hfu (by decide) (by decide) (by omega) p2.1 c7
    have le6 := popTo_le (hs := hs) (r := 6) h
    have le1 := popTo_le (hs := hs) (r := 1) h
    have lc := popTo_comp (hs := hs) (r := 1) (r' := 6) (by decide) h
    have le16 := popTo_le (hs := hs) (r := 1) (popTo hs 6 h)
    obtain ⟨k, hk⟩ : ∃ k, popTo hs 1 h = k + 1 := by
      cases hk : popTo hs 1 h with
      | zero =>
        have eo := opN_pop (hs := hs) (r := 1) (by decide) h
        rw [hk, opN] at eo
        omega
      | succ k => exact ⟨k, rfl⟩
    have tp := popTo_top hk
    have eo := opN_pop (hs := hs) (r := 1) (by decide) h
    have k40 : hs k = 40 := Decidable.of_not_not (fun q => by have := (rk_pos (p2.1 k (by omega)) q).1; omega)
    rw [hk, opN, if_pos k40] at eo
    have cv := cv_pop (r := 1) (by decide) h z c p2.1 p7 (by omega)
    rw [hk] at cv s2 le1
    -- the reference
    obtain ⟨m1, u1, u2, u3⟩ := settle_ev (r := 0) hfu (by decide) (by omega) (fun i hi => p2.1 i (by omega)) kH
    rw [if_pos rfl, lc, putS_comp (by omega) le6, show z + (h - popTo hs 6 h) + (popTo hs 6 h - popTo hs 1 h) = z + (h - popTo hs 1 h) by omega, hk] at u2
    have H2 : HdM hs k (putS hs h (k + 1) z c) (z + (h - (k + 1))) (upd m1 3011 (nI k)) := ⟨pk_us, by rw [pk_un (by decide)]; exact u2.2.1, fun i hi => by rw [pk_un (by omega)]; exact u2.2.2.1 i (by omega), fun i hi => by rw [pk_un (by omega)]; exact u2.2.2.2 i hi⟩
    obtain ⟨m2, v1, v2, v3⟩ := settle_ev (r := 6) hfu (by decide) (by omega) (fun i hi => p2.1 i (by omega)) H2
    rw [if_neg (by decide)] at v2
    have le6k := popTo_le (hs := hs) (r := 6) k
    have fr1 : Fr [(3009, 3010), (3011, 3012), (3400, 3496)] mm m2 := fr_tr (fr_tr (u3.inc (by decide)) (Fr.up.inc (by decide))) (v3.inc (by decide))
    obtain ⟨m3, g1, g2, g3⟩ := go_tok (e := e) hfu (show F + 1 ≤ n by omega) (mT.fr (fr1.inc (by decide))) (by rw [fr1.rg 3003 3004 (by decide) (by decide) (by decide)]; exact l3) (by rw [fr1.rg 3007 3008 (by decide) (by decide) (by decide)]; exact l7)
    have fr3 : Fr [(3003, 3008), (3009, 3010), (3011, 3012), (3400, 3496)] mm m3 := fr_tr (fr1.inc (by decide)) (g3.inc (by decide))
    have fr2 : Fr [(281, 284), (374, 375), (2444, 2540)] M (upd (upd M2 282 (nI (br - 1))) 281 (nI k)) := fr_tr (fr_tr (s3.inc (by decide)) (Fr.up.inc (by decide))) (Fr.up.inc (by decide))
    have nk : notsN hs (k + 1) = notsN hs k := by rw [notsN, if_neg (by omega)]; rfl
    refine ⟨F + 1, 0, e, 0, br - 1, a, hs, k, putS hs h (k + 1) z c, z + (h - (k + 1)), upd (upd M2 282 (nI (br - 1))) 281 (nI k), m3, by omega, Or.inl rfl, ?_, ?_, fr_tr d3 (fr2.inc (by decide)), fr3.inc (by decide), ⟨by omega, by omega, okL_le p2 (by omega), by omega, by omega, ?_, by omega, cv.1, p8, ?_⟩, hG.sign hn p0 (by omega), ⟨c0.fr (fr2.inc (by decide)), ?_, ?_, ?_, ?_, ?_, ?_, pk_us, ?_, fun i hi => ?_, fun i hi => ?_, ?_⟩, ⟨mT.fr (fr3.inc (by decide)), g2, ?_, ?_, ?_, fun d hd => ?_⟩⟩
    · rw [show (1 : Int32) = nI 1 from rfl, s1, doV_some, s3.rg 282 283 (by decide) (by decide) (by decide), c5, show nI br - nI 1 = nI (br - 1) from nI_pr (by omega), seqM_eq, seqM_eq, pk_un (show (281 : Nat) ≠ 282 by decide), s2.1, show nI (k + 1) - nI 1 = nI k from nI_pr (by omega)]
      rfl
    · rw [f_X9_takesE_28, if_pos rfl, l5, if_neg (by decide)]
      unfold f_X9_takesE_39
      rw [if_pos rfl, l5, if_pos rfl, l6, if_pos (by decide), if_neg (by rw [show (0 : Int32) = nI 0 from rfl]; exact nI_ge (by omega) (by omega)), show f_X9_settle fu 0 mm = some m1 from u1, doV_some, seqM_eq, u2.1, nI_pred, seqM_eq, show f_X9_settle fu 6 (upd m1 3011 (nI k)) = some m2 from v1, doV_some, nots_ev hfu (by omega) (fun i hi => p2.1 i (by omega)) v2, doI_some, g1, doV_some, hR_0]
      have : nI br + (-1) = nI (br - 1) := by
        have := pk_m1 (br - 1)
        rw [show br - 1 + 1 = br by omega] at this
        exact this
      rw [this]
      rfl
    · have := notsN_mono (hs := hs) (show k ≤ h by omega); omega
    · rw [cv.2, biN, if_pos (Or.inl k40)]
    · rw [fr2.rg 286 287 (by decide) (by decide) (by decide)]; exact c1
    · rw [fr2.rg 287 288 (by decide) (by decide) (by decide)]; exact c2
    · rw [fr2.rg 284 285 (by decide) (by decide) (by decide)]; exact c3
    · rw [fr2.rg 372 373 (by decide) (by decide) (by decide)]; exact c4
    · rw [pk_un (by decide), pk_us]
    · rw [fr2.rg 373 374 (by decide) (by decide) (by decide)]; exact c6
    · rw [pk_un (by decide), pk_un (by decide)]; exact s2.2.1
    · rw [pk_un (by omega), pk_un (by omega)]; exact s2.2.2.1 i (by omega)
    · rw [pk_un (by omega), pk_un (by omega)]; exact s2.2.2.2.1 i hi
    · rw [pk_un (by decide), pk_un (by decide), ← nk]; exact s2.2.2.2.2
    · rw [fr3.rg 3008 3009 (by decide) (by decide) (by decide)]; exact k8
    · rw [fr3.rg 3010 3011 (by decide) (by decide) (by decide)]; exact k10
    · rw [hR_0]; exact v2.fr (by omega) g3 (by decide) (by decide) (by decide) (by decide)
    · rw [fr3.rg 3600 3610 (by decide) (by omega) (by omega), kT d (by omega), ← ts_low (r := 1) (by decide) h (by omega), hk, tsN, decide_eq_false (show ¬ rkB (hs k) = 3 by rw [k40]; decide), Bool.and_false, Bool.or_false]
/-- a sign between two pieces -/
theorem at_sign (hfu : 97 < fu) (hj : j ≤ t) (hF : tF b n t < n) (hL : ¬ isLe b (tF b n t)) (hD : ¬ isFi b (tF b n t)) (h41 : ¬ b (tF b n t) = 41) (hS : ST b n key t w e 0 br a hs h c z mc mm) : Ends key (f_X1_fault_6 fu (f + 1) (nI j) mc) (f_X9_takesE_28 fu (g + 1) (nI br) (nI (notsN hs (hR hs 0 h))) 0 mm) mc mm ∨ GoOn fu f g j b n key t (f_X1_fault_6 fu (f + 1) (nI j) mc) (f_X9_takesE_28 fu (g + 1) (nI br) (nI (notsN hs (hR hs 0 h))) 0 mm) mc mm := by
  obtain ⟨hP, hG, hC, hM⟩ := hS
  have hn := hC.1.1
  obtain ⟨f1, f2⟩ := tF_ok (b := b) hP.1
  obtain ⟨M, d1, d2, d3, d4⟩ := cturn (f := f) hfu hj hF hP hG hC
  obtain ⟨t2, t3⟩ := tok_sg hL hD
  rw [bz_f t2, t3] at d1
  obtain ⟨p0, p1, p2, p3, p4, p5, p6, p7, p8, p9⟩ := hP
  obtain ⟨mT, ⟨k0, k1, kL, kF, kS⟩, k8, k10, kH, kT⟩ := hM
  obtain ⟨l5, l6, l3, l7⟩ := kS hF hL hD
  rw [hR_0] at kH
  have hx := (mT.2.2 _ hF).2
  rw [d4, if_neg (fun q => t2 q.1), goes_0 d1 p8, csign hF hx d2 d1.1, if_neg h41]
  generalize tF b n t = F at *
  obtain ⟨c0, c1, c2, c3, c4, c5, c6, c7⟩ := d1
  have e41 : (nI (b F) = 41) = (b F = 41) := nI_eqP (b := 41) (by omega) (by decide)
  have hB0 : f_X9_takesE_28 fu (g + 1) (nI br) (nI (notsN hs (hR hs 0 h))) 0 mm = f_X9_takesE_237 fu (f_X9_takesE_28 fu g) (nI br) (nI (notsN hs (hR hs 0 h))) mm := r_sign (by rw [l5]; decide) (fun q => h41 (by rw [l6, e41] at q; exact q.2.1))
  by_cases q0 : rkB (b F) < 1 ∨ 6 ≤ rkB (b F)
  · left
    rw [if_pos q0]
    refine both_no hn f2 (L := M) ?_ ?_ k0 d3
    · rw [doI_some, isB_0, chk_t, doI_some, if_pos rfl, d2]
    · rw [hB0, r_no (sign_no hx l5 l6 q0)]
  · rw [if_neg q0]
    obtain ⟨y1, y2, y3, y4, y5⟩ := sign_yes (fu := fu) hx l5 l6 q0
    obtain ⟨r, hr⟩ : ∃ r, r = rkB (b F) := ⟨_, rfl⟩
    have mrk : ∀ m : Mem, f_X9_rank fu (encS (b F)) m = some (nI r, m) := fun m => by rw [mrank_ev y3 y5, hr]
    rw [← hr] at q0 ⊢
    obtain ⟨r2, hr2⟩ : ∃ r2, r2 = (if r = 3 then 4 else r) := ⟨_, rfl⟩
    rw [← hr2]
    have r2b : 1 ≤ r2 ∧ r2 < 6 ∧ ((¬ r = 3 ∧ r2 = r) ∨ (r = 3 ∧ r2 = 4)) := by
      by_cases q : r = 3
      · rw [if_pos q] at hr2; omega
      · rw [if_neg q] at hr2; omega
    obtain ⟨M2, s1, s2, s3⟩ := release_ev (r := r2) hfu (by omega) (by omega) (by omega) p2.1 c7
    have le1 := popTo_le (hs := hs) (r := r2) h
    have le6 := popTo_le (hs := hs) (r := 6) h
    have tov := top_ev (fu := fu) (hs := hs) (h := popTo hs r2 h) (by omega) s2.1 s2.2.2.1 (fun i hi => p2.1 i (by omega))
    have e3 : (nI r = 3) = (r = 3) := nI_eqP (b := 3) (by omega) (by decide)
    have kTb := kT br (Nat.le_refl _)
    have ttop := ts_top (hs := hs) (h := h) p2
    rw [p3] at ttop
    unfold f_X1_takesSign_50
    rw [s1, doV_some, hB0]
    unfold f_X9_takesE_237
    rw [y1, doI_some, if_neg y2, mrk, doI_some]
    by_cases qf : r = 3 ∧ topR hs (popTo hs 4 h) = 3
    · left
      have h24 : r2 = 4 := by omega
      rw [if_pos (by rw [e3]; exact qf.1), tov, doI_some, h24, qf.2, if_pos (by decide), if_pos (by rw [e3]; exact qf.1), inb_nI (show br < 10 by omega) (by decide), chk_t, nI_clamp (by omega), kTb, bz_t (ttop.mpr qf.2), if_neg (by decide)]
      refine both_no hn f2 (L := M2) ?_ rfl k0 (fr_tr d3 (s3.inc (by decide)))
      rw [doI_some, isB_0, chk_t, doI_some, if_pos rfl, s3.rg 285 286 (by decide) (by decide) (by decide), d2]
    · right
      have hp : popTo hs r h = popTo hs r2 h := by
        rcases r2b.2.2 with ⟨_, q⟩ | ⟨q, q'⟩
        · rw [q]
        · rw [q, q']
          exact pop34 h (fun z => qf ⟨q, z⟩)
      -- the class holds the sign
      obtain ⟨M3, v1, v2, v3, v4⟩ := hold_ev (fu := fu) (x := b F) (m := M2) (hs := hs) (h := popTo hs r2 h) (by omega) s2.1 s2.2.2.1
      have hA : (if nI r = 3 then (doI (f_X1_topRank fu M2) (fun r_5 m_4 => if r_5 = 3 then (some (0, m_4)) else (f_X1_takesSign_68 fu (nI (b F)) m_4))) else (f_X1_takesSign_68 fu (nI (b F)) M2)) = some (1, upd M3 284 1) := by
        have h68 : f_X1_takesSign_68 fu (nI (b F)) M2 = some (1, upd M3 284 1) := by
          unfold f_X1_takesSign_68
          rw [v1, doV_some, seqM_eq]
        by_cases q : r = 3
        · have h24 : r2 = 4 := by omega
          rw [if_pos (by rw [e3]; exact q), tov, doI_some, h68]
          have nt : ¬ topR hs (popTo hs r2 h) = 3 := by rw [h24]; exact fun z => qf ⟨q, z⟩
          have tl : topR hs (popTo hs r2 h) < 100 := by
            cases hk : popTo hs r2 h with
            | zero => exact Nat.zero_lt_succ _
            | succ k => have := popTo_top hk; show rkB (hs k) < 100; omega
          rw [if_neg (by rw [show (3 : Int32) = nI 3 from rfl, nI_eqP (by omega) (by decide)]; exact nt)]
        · rw [if_neg (by rw [e3]; exact q), h68]
      rw [hA]
      -- the reference
      have h305 : ∀ y : Int32, y = bz (tsN (psh hs (popTo hs r2 h) (b F)) br (popTo hs r2 h + 1) = true) → GoOn fu f g j b n key t (f_X1_fault_6 fu f (nI (j + 1)) (upd M3 284 1)) (f_X9_takesE_305 fu (f_X9_takesE_28 fu g) (nI br) (nI (notsN hs (hR hs 0 h))) (encS (b F)) (nI br) y mm) mc mm := by
        intro y hy
        have nar : vp_nar .boolean y = y := by
          rw [hy]
          by_cases q : tsN (psh hs (popTo hs r2 h) (b F)) br (popTo hs r2 h + 1) = true
          · rw [bz_t q]; decide
          · rw [bz_f q]; decide
        obtain ⟨m1, hm1⟩ : ∃ m1, m1 = upd mm (3600 + br) y := ⟨_, rfl⟩
        have fr1 : Fr [(3600, 3610)] mm m1 := fun k hk => by
          have := hk (3600, 3610) (by decide)
          simp only at this
          rw [hm1, pk_un (by omega)]
        have kH1 := kH.fr (by omega) fr1 (by decide) (by decide) (by decide) (by decide)
        obtain ⟨m2, u1, u2, u3⟩ := settle_ev (r := r) hfu (by omega) (by omega) (fun i hi => p2.1 i (by omega)) kH1
        rw [if_neg (by omega), popTo_comp (by omega), hp, putS_comp (by have := popTo_le (hs := hs) (r := r) (popTo hs 6 h); rw [popTo_comp (by omega), hp] at this; exact this) le6] at u2
        have lt6 : popTo hs r2 h ≤ popTo hs 6 h := by have := popTo_le (hs := hs) (r := r) (popTo hs 6 h); rw [popTo_comp (by omega), hp] at this; exact this
        rw [show z + (h - popTo hs 6 h) + (popTo hs 6 h - popTo hs r2 h) = z + (h - popTo hs r2 h) by omega] at u2
        have hmp := mpush (x := b F) (y := encS (b F)) (by omega) u2 rfl
        obtain ⟨m3, hm3⟩ : ∃ m3, m3 = upd (upd m2 (3500 + popTo hs r2 h) (encS (b F))) 3011 (nI (popTo hs r2 h + 1)) := ⟨_, rfl⟩
        rw [← hm3] at hmp
        have fr3 : Fr [(3009, 3010), (3011, 3012), (3400, 3610)] mm m3 := fr_tr (fr_tr (fr1.inc (by decide)) (u3.inc (by decide))) (hmp.2.inc (by decide))
        obtain ⟨m4, g1, g2, g3⟩ := go_tok (e := e) hfu (show F + 1 ≤ n by omega) (mT.fr (fr3.inc (by decide))) (by rw [fr3.rg 3003 3004 (by decide) (by decide) (by decide)]; exact l3) (by rw [fr3.rg 3007 3008 (by decide) (by decide) (by decide)]; exact l7)
        have fr4 : Fr [(3003, 3008), (3009, 3010), (3011, 3012), (3400, 3610)] mm m4 := fr_tr (fr3.inc (by decide)) (g3.inc (by decide))
        have fr2 : Fr [(281, 285), (374, 375), (1000, 1096), (2444, 2540)] M (upd M3 284 1) := fr_tr (fr_tr (s3.inc (by decide)) (v4.inc (by decide))) (Fr.up.inc (by decide))
        have cv := cv_pop (r := r2) (by omega) h z c p2.1 p7 (by omega)
        have np6 : notsN hs (popTo hs r2 h) = notsN hs (popTo hs 6 h) := by
          rw [← hp, ← popTo_comp (hs := hs) (r := r) (r' := 6) (by omega) h]
          exact nots_pop (by omega) _ (okL_le p2 le6) (fun k hk => popTo_top hk)
        have n33 : ¬ b F = 33 := y4
        have opp : opN hs (popTo hs r2 h) = br := by rw [opN_pop (by omega)]; exact p3
        refine ⟨F + 1, 0, e, 1, br, a, psh hs (popTo hs r2 h) (b F), popTo hs r2 h + 1, putS hs h (popTo hs r2 h) z c, z + (h - popTo hs r2 h), upd M3 284 1, m4, by omega, Or.inr rfl, rfl, ?_, fr_tr d3 (fr2.inc (by decide)), fr4.inc (by decide), ⟨by omega, by omega, okL_p (okL_le p2 le1) y3 (fun k hk => ?_), ?_, p4, ?_, by omega, cv.1, p8, ?_⟩, hG.sign hn p0 (by omega), ⟨c0.fr (fr2.inc (by decide)), ?_, ?_, pk_us, ?_, ?_, ?_, ?_, ?_, fun i hi => ?_, fun i hi => ?_, ?_⟩, ⟨mT.fr (fr4.inc (by decide)), g2, ?_, ?_, ?_, fun d hd => ?_⟩⟩
        · unfold f_X9_takesE_305
          rw [inb_nI (show br < 10 by omega) (by decide), chk_t, nI_clamp (by omega), nar, seqM_eq, ← hm1, mrk, doI_some, u1, doV_some, u2.1, inb_nI (show popTo hs r2 h < 96 by omega) (by decide), chk_t, nI_clamp (by omega), seqM_eq, seqM_eq, pk_un (show 3011 ≠ 3500 + popTo hs r2 h by omega), u2.1, nI_1, ← hm3, g1, doV_some, hR_1, hR_0, notsN_p, if_neg n33, Nat.add_zero, np6]
          rfl
        · have tp := popTo_top hk
          refine Or.inr (Or.inr ?_)
          rw [← hr]
          rcases r2b.2.2 with ⟨_, q⟩ | ⟨q, q'⟩
          · omega
          · have : ¬ rkB (hs k) = 3 := fun z => qf ⟨q, by rw [← q', hk]; exact z⟩
            omega
        · rw [opN_p, if_neg y5]; exact opp
        · rw [notsN_p, if_neg n33]; have := notsN_mono (hs := hs) le1; omega
        · rw [biN_p, if_neg (fun o => by
            rcases o with o | o
            · exact y5 o
            · exact y4 o), cv.2]
        · rw [fr2.rg 286 287 (by decide) (by decide) (by decide)]; exact c1
        · rw [fr2.rg 287 288 (by decide) (by decide) (by decide)]; exact c2
        · rw [fr2.rg 372 373 (by decide) (by decide) (by decide)]; exact c4
        · rw [pk_un (by decide), v4.rg 282 283 (by decide) (by decide) (by decide), s3.rg 282 283 (by decide) (by decide) (by decide)]; exact c5
        · rw [fr2.rg 373 374 (by decide) (by decide) (by decide)]; exact c6
        · rw [pk_un (by decide)]; exact v2
        · rw [pk_un (by decide), v4.rg 374 375 (by decide) (by decide) (by decide)]; exact s2.2.1
        · rw [pk_un (by omega)]; exact v3 i hi
        · rw [pk_un (by omega), v4.rg 2444 2540 (by decide) (by omega) (by omega)]; exact s2.2.2.2.1 i hi
        · rw [pk_un (by decide), v4.rg 283 284 (by decide) (by decide) (by decide), notsN_p, if_neg n33]; exact s2.2.2.2.2
        · rw [fr4.rg 3008 3009 (by decide) (by decide) (by decide)]; exact k8
        · rw [fr4.rg 3010 3011 (by decide) (by decide) (by decide)]; exact k10
        · rw [hR_1, putS_0, Nat.sub_self, Nat.add_zero]; exact hmp.1.fr (by omega) g3 (by decide) (by decide) (by decide) (by decide)
        · rw [g3.rg 3600 3610 (by decide) (by omega) (by omega), hmp.2.rg 3600 3610 (by decide) (by omega) (by omega), u3.rg 3600 3610 (by decide) (by omega) (by omega), hm1]
          by_cases dd : d = br
          · subst dd
            rw [pk_us, hy]
          · rw [pk_un (by omega), kT d hd, tsN_p, opp, decide_eq_false (show ¬ br = d by omega), Bool.false_and, Bool.or_false, ts_low (by omega) h (by omega)]
      have opp : opN hs (popTo hs r2 h) = br := by rw [opN_pop (by omega)]; exact p3
      have tsp : tsN (psh hs (popTo hs r2 h) (b F)) br (popTo hs r2 h + 1) = (tsN hs br (popTo hs r2 h) || decide (r = 3)) := by rw [tsN_p, opp, decide_eq_true rfl, Bool.true_and, ← hr]
      have h268 : GoOn fu f g j b n key t (f_X1_fault_6 fu f (nI (j + 1)) (upd M3 284 1)) (f_X9_takesE_268 fu (f_X9_takesE_28 fu g) (nI br) (nI (notsN hs (hR hs 0 h))) (encS (b F)) mm) mc mm := by
        unfold f_X9_takesE_268 f_X9_takesE_300 f_X9_takesE_304
        rw [mrk, doI_some]
        by_cases q : r = 3
        · rw [if_pos (by rw [e3]; exact q)]
          exact h305 1 (by rw [tsp, decide_eq_true q, Bool.or_true]; rfl)
        · rw [if_neg (by rw [e3]; exact q), mrk, doI_some]
          by_cases ql : r ≤ 3
          · have h2r : r2 = r := by omega
            rw [if_pos (by rw [show (3 : Int32) = nI 3 from rfl]; exact nI_le ql (by decide))]
            refine h305 0 ?_
            have := ts_kill (hs := hs) (h := h) (r := r2) p2 (by omega) (by omega)
            rw [p3] at this
            rw [tsp, this, decide_eq_false q]
            rfl
          · have h2r : r2 = r := by omega
            rw [if_neg (by rw [show (3 : Int32) = nI 3 from rfl]; exact nI_ge (by omega) (by omega)), inb_nI (show br < 10 by omega) (by decide), chk_t, nI_clamp (by omega), kTb]
            have := ts_hi (hs := hs) (d := br) (r := r2) (by omega) h
            by_cases qt : tsN hs br h = true
            · rw [bz_t qt, if_neg (by decide)]
              refine h305 1 ?_
              rw [tsp, this, qt]
              rfl
            · rw [bz_f qt, if_pos rfl]
              refine h305 0 ?_
              rw [tsp, this, decide_eq_false q, Bool.or_false, bz_f qt]
      have fin : GoOn fu f g j b n key t (f_X1_fault_6 fu f (nI (j + 1)) (upd M3 284 1)) (if nI r = 3 then (chk (inb (nI br) 10) (if (mm (3600 + (nI br).toNatClampNeg)) = 0 then (f_X9_takesE_268 fu (f_X9_takesE_28 fu g) (nI br) (nI (notsN hs (hR hs 0 h))) (encS (b F)) mm) else (some (0, mm)))) else (f_X9_takesE_268 fu (f_X9_takesE_28 fu g) (nI br) (nI (notsN hs (hR hs 0 h))) (encS (b F)) mm)) mc mm := by
        by_cases q : r = 3
        · have nt : ¬ tsN hs br h = true := fun z => qf ⟨q, ttop.mp z⟩
          rw [if_pos (by rw [e3]; exact q), inb_nI (show br < 10 by omega) (by decide), chk_t, nI_clamp (by omega), kTb, bz_f nt, if_pos rfl]
          exact h268
        · rw [if_neg (by rw [e3]; exact q)]
          exact h268
      exact fin
end SIGNS
