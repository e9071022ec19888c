/-! PURE: numbers, nots and brackets where a piece is due -/
section PIECB
variable {fu f g j n key t du br a h z F : Nat} {b hs : Nat → Nat} {w e : Int32} {c : Row} {m M mc mm : Mem}
/-- a number -/
theorem at_num (hfu : 97 < fu) (hj : j ≤ t) (hF : tF b n t < n) (hL : isFi b (tF b n t)) (he : ¬ nI (tF b n t) = e) (hS : ST b n key t w e 1 br a hs h c z mc mm) : Ends key (f_X1_fault_6 fu (f + 1) (nI j) mc) (f_X9_takesE_28 fu (g + 1) (nI br) (nI (notsN hs (hR hs 1 h))) 1 mm) mc mm ∨ GoOn fu f g j b n key t (f_X1_fault_6 fu (f + 1) (nI j) mc) (f_X9_takesE_28 fu (g + 1) (nI br) (nI (notsN hs (hR hs 1 h))) 1 mm) mc mm := by
  obtain ⟨hP, hG, hC, hM⟩ := hS
  have hn := hC.1.1
  have hk := hP.2.2.2.2.2.2.2.2.1
  obtain ⟨f1, f2⟩ := tF_ok (b := b) hP.1
  obtain ⟨M, d1, d2, d3, d4⟩ := cturn (f := f) hfu hj hF hP hG hC
  obtain ⟨t1, t2, t3⟩ := tok_fi hF hL
  rw [bz_t t2, t3] at d1
  have hMM := hM
  obtain ⟨mT, ⟨k0, k1, kL, kF, kS⟩, k8, k10, kH, kT⟩ := hM
  obtain ⟨l5, l6, l3, l7⟩ := kF hF hL
  have hall : ∀ i, tF b n t ≤ i → i < tE b n t → isFi b i := by
    rw [t1]
    exact fun i => endOf_all (P := isFi b) (n := n) (n - tF b n t) (tF b n t) (Nat.le_refl _) i
  rw [← t1] at l3 l7 l5 l6
  have tE2 := (tE_ok (b := b) hP.1).2
  generalize tF b n t = F at *
  generalize tE b n t = E at *
  have hx := (mT.2.2 F hF).2
  rw [d4, if_neg (fun q => he q.2), goes_1 d1 hk]
  have hCN : ∀ k2 : Int32 → Mem → Option (Int32 × Mem), doI (doI (f_X1_takesPiece fu M) (fun r_7 m_6 => chk (isB r_7) (some (r_7, m_6)))) k2 = if E - F ≤ 4 then doI (doV (f_X1_takesAtom fu (nI (numV b F (E - F))) M) (fun m_2 => some (1, m_2))) k2 else k2 0 M := by
    intro k2
    unfold f_X1_takesPiece
    rw [d2, inb_nI (show F < 96 by omega) (by decide), chk_t, nI_clamp (by omega), (d1.1.2.2 F hF).1, seqM_eq, digit_ev hx, doI_some, bz_t hL, if_neg (by decide), cnum_ev2 hfu d1.1 tE2 (by omega) d2 d1.2.1 hall]
    by_cases q : E - F ≤ 4
    · rw [if_pos q, if_pos q]
      cases hta : f_X1_takesAtom fu (nI (numV b F (E - F))) M with
      | none => rfl
      | some p => rfl
    · rw [if_neg q, if_neg q]
      rfl
  rw [hCN]
  by_cases q : E - F ≤ 4
  · right
    rw [if_pos ⟨he, q⟩] at l5
    rw [show min 4 (E - F) = E - F by omega] at l6
    have hBB : f_X9_takesE_28 fu (g + 1) (nI br) (nI (notsN hs (hR hs 1 h))) 1 mm = f_X9_takesE_158 fu (f_X9_takesE_28 fu g) (nI br) mm := r_part (by rw [l5]; exact fun z => absurd z.1 (by decide)) (by rw [l5]; exact fun z => absurd z.1 (by decide))
    rw [if_pos q]
    have hv := num_ok (b := b) (n := n) (F := F) (E := E) (fun k hk => (mT.2.2 k hk).2) tE2 (by omega) q hall
    obtain ⟨v1, v2, v3, v4⟩ := enc_num hv
    refine at_atom hfu hn hP hMM f1 (by omega) tE2 d1 d3 l3 l7 (y := nI (numV b F (E - F))) v1.symm v2 ⟨v3, fun _ => v4⟩ rfl ?_
    rw [hBB]
    unfold f_X9_takesE_158
    have : f_X9_takesPart fu mm = f_X9_takesPart_87 fu (nI z) (nI (numV b F (E - F))) mm := by
      have z9 : mm 3009 = nI z := by
        have := kH.2.1
        rw [hR_1, Nat.sub_self, Nat.add_zero] at this
        exact this
      unfold f_X9_takesPart f_X9_takesPart_36 f_X9_takesPart_37 f_X9_takesPart_52
      rw [l5, if_neg (by decide), if_pos rfl, if_pos rfl, l6, z9]
    rw [this]
  · left
    rw [if_neg (fun z => q z.2)] at l5
    rw [if_neg q, if_pos rfl]
    refine both_no hn f2 (by rw [d2]) ?_ k0 d3
    rw [r_part (by rw [l5]; exact fun z => absurd z.1 (by decide)) (by rw [l5]; exact fun z => absurd z.1 (by decide)), e_no (p_no (by rw [l5]; decide) (by rw [l5]; decide))]
/-- a not or a bracket -/
theorem at_open (hfu : 97 < fu) (hj : j ≤ t) (hF : tF b n t < n) (hL : ¬ isLe b (tF b n t)) (hD : ¬ isFi b (tF b n t)) (hS : ST b n key t w e 1 br a hs h c z mc mm) : Ends key (f_X1_fault_6 fu (f + 1) (nI j) mc) (f_X9_takesE_28 fu (g + 1) (nI br) (nI (notsN hs (hR hs 1 h))) 1 mm) mc mm ∨ GoOn fu f g j b n key t (f_X1_fault_6 fu (f + 1) (nI j) mc) (f_X9_takesE_28 fu (g + 1) (nI br) (nI (notsN hs (hR hs 1 h))) 1 mm) mc mm := by
  obtain ⟨hP, hG, hC, hM⟩ := hS
  have hn := hC.1.1
  obtain ⟨f1, f2⟩ := tF_ok (b := b) hP.1
  obtain ⟨M, d1, d2, d3, d4⟩ := cturn (f := f) hfu hj hF hP hG hC
  obtain ⟨t2, t3⟩ := tok_sg hL hD
  rw [bz_f t2, t3] at d1
  have hMM := hM
  obtain ⟨p0, p1, p2, p3, p4, p5, p6, p7, p8, p9⟩ := hP
  obtain ⟨mT, ⟨k0, k1, kL, kF, kS⟩, k8, k10, kH, kT⟩ := hM
  obtain ⟨l5, l6, l3, l7⟩ := kS hF hL hD
  rw [hR_1, putS_0, Nat.sub_self, Nat.add_zero] at kH
  rw [hR_1]
  rw [d4, if_neg (fun q => t2 q.1), goes_1 d1 p8]
  generalize tF b n t = F at *
  have hx := (mT.2.2 F hF).2
  have e33 : (nI (b F) = 33) = (b F = 33) := nI_eqP (b := 33) (by omega) (by decide)
  have e40 : (nI (b F) = 40) = (b F = 40) := nI_eqP (b := 40) (by omega) (by decide)
  have i8 : ∀ k, k ≤ 8 → (((8 : Int32) ≤ nI k) ↔ 8 ≤ k) := by decide
  obtain ⟨c0, c1, c2, c3, c4, c5, c6, c7⟩ := d1
  have hCP : f_X1_takesPiece fu M = (if nI (b F) = 33 then (if (8 : Int32) ≤ M 283 then (f_X1_takesPiece_68 fu (nI (b F)) M) else (doV (f_X1_hold fu (nI (b F)) (upd M 283 ((M 283) + 1))) (fun m_13 => some (1, m_13)))) else (f_X1_takesPiece_68 fu (nI (b F)) M)) := by
    unfold f_X1_takesPiece
    rw [d2, inb_nI (show F < 96 by omega) (by decide), chk_t, nI_clamp (by omega), (c0.2.2 F hF).1, seqM_eq, digit_ev hx, doI_some, bz_f hD, if_pos rfl, letter_ev hx, doI_some, bz_f hL, if_pos rfl]
    rfl
  rw [hCP, c7.2.2.2.2]
  have no68 : ¬ (b F = 40 ∧ br < 8) → f_X1_takesPiece_68 fu (nI (b F)) M = some (0, M) := by
    intro q
    unfold f_X1_takesPiece_68
    by_cases q2 : b F = 40
    · rw [if_pos (by rw [e40]; exact q2), c5, if_pos ((i8 br p4).mpr (by omega))]
    · rw [if_neg (by rw [e40]; exact q2)]
  have tail : ∀ (br2 : Nat) (hs2 : Nat → Nat) (M2 m1 : Mem), hs2 = psh hs h (b F) → CS b n key (F + 1) 0 1 br2 a hs2 (h + 1) c z M2 → Fr FC M M2 → Fr FM mm m1 → PS n key (F + 1) 1 br2 a hs2 (h + 1) c z → HdM hs2 (h + 1) c z m1 → m1 3003 = nI (F + 1) → m1 3007 = e → m1 3008 = nI key → m1 3010 = nI a → (∀ d, d ≤ br2 → m1 (3600 + d) = bz (tsN hs2 d (h + 1) = true)) →
      ∀ A B : Option (Int32 × Mem), A = f_X1_fault_6 fu f (nI (j + 1)) M2 → B = doV (f_X9_go fu m1) (fun m_12 => f_X9_takesE_172 fu (f_X9_takesE_28 fu g) (nI br2) 1 m_12) → GoOn fu f g j b n key t A B mc mm := by
    intro br2 hs2 M2 m1 e2 hC2 fr2 fr1 hP2 hH2 h3 h7 h8 h10 hT2 A B hA hB
    obtain ⟨m2, g1, g2, g3⟩ := go_tok (e := e) hfu (show F + 1 ≤ n by omega) (mT.fr fr1) h3 h7
    have hH3 := hH2.fr (by omega) g3 (by decide) (by decide) (by decide) (by decide)
    refine ⟨F + 1, 0, e, 1, br2, a, hs2, h + 1, c, z, M2, m2, by omega, Or.inr rfl, hA, ?_, fr_tr d3 fr2, fr_tr fr1 (g3.inc (by decide)), hP2, hG.sign hn p0 (by omega), hC2, ⟨mT.fr (fr_tr fr1 (g3.inc (by decide))), g2, ?_, ?_, ?_, fun d hd => ?_⟩⟩
    · rw [hB, g1, doV_some]
      unfold f_X9_takesE_172
      rw [nots_ev hfu (by omega) hP2.2.2.1.1 hH3, doI_some, hR_1]
      rfl
    · rw [g3.rg 3008 3009 (by decide) (by decide) (by decide)]; exact h8
    · rw [g3.rg 3010 3011 (by decide) (by decide) (by decide)]; exact h10
    · rw [hR_1, putS_0, Nat.sub_self, Nat.add_zero]; exact hH3
    · have := hP2.2.2.2.2.1
      rw [g3.rg 3600 3610 (by decide) (by omega) (by omega)]; exact hT2 d hd
  by_cases q1 : b F = 33 ∧ notsN hs h < 8
  · right
    rw [if_pos (by rw [e33]; exact q1.1), if_neg (fun q => by have := (i8 _ p5).mp q; omega), nI_1]
    obtain ⟨M2, s1, s2, s3, s4⟩ := hold_ev (fu := fu) (x := b F) (m := upd M 283 (nI (notsN hs h + 1))) (hs := hs) (h := h) (by omega) (by rw [pk_un (by decide)]; exact c7.1) (fun i hi => by rw [pk_un (by omega)]; exact c7.2.2.1 i hi)
    have fr2 : Fr [(281, 282), (283, 284), (1000, 1096)] M M2 := fr_tr (Fr.up.inc (by decide)) (s4.inc (by decide))
    have hmp := mpush (x := b F) (y := encS (b F)) (by omega) kH rfl
    have e10 : encS (b F) = -10 := by rw [q1.1]; decide
    rw [e10] at hmp
    refine tail br (psh hs h (b F)) M2 _ rfl ⟨c0.fr (fr2.inc (by decide)), ?_, ?_, ?_, ?_, ?_, ?_, s2, ?_, s3, fun i hi => ?_, ?_⟩ (fr2.inc (by decide)) (hmp.2.inc (by decide)) ⟨by omega, by omega, okL_p p2 (by rw [q1.1]; exact Or.inl rfl) (fun k _ => by rw [q1.1]; exact Or.inr (Or.inl rfl)), ?_, p4, ?_, p6, p7, p8, ?_⟩ hmp.1 (by rw [hmp.2.rg 3003 3004 (by decide) (by decide) (by decide)]; exact l3) (by rw [hmp.2.rg 3007 3008 (by decide) (by decide) (by decide)]; exact l7) (by rw [hmp.2.rg 3008 3009 (by decide) (by decide) (by decide)]; exact k8) (by rw [hmp.2.rg 3010 3011 (by decide) (by decide) (by decide)]; exact k10) (fun d hd => ?_) _ _ ?_ ?_
    · rw [fr2.rg 286 287 (by decide) (by decide) (by decide)]; exact c1
    · rw [fr2.rg 287 288 (by decide) (by decide) (by decide)]; exact c2
    · rw [fr2.rg 284 285 (by decide) (by decide) (by decide)]; exact c3
    · rw [fr2.rg 372 373 (by decide) (by decide) (by decide)]; exact c4
    · rw [fr2.rg 282 283 (by decide) (by decide) (by decide)]; exact c5
    · rw [fr2.rg 373 374 (by decide) (by decide) (by decide)]; exact c6
    · rw [fr2.rg 374 375 (by decide) (by decide) (by decide)]; exact c7.2.1
    · rw [fr2.rg 2444 2540 (by decide) (by omega) (by omega)]; exact c7.2.2.2.1 i hi
    · rw [s4.rg 283 284 (by decide) (by decide) (by decide), pk_us, notsN_p, if_pos q1.1]
    · rw [opN_p, if_neg (by omega)]; exact p3
    · rw [notsN_p, if_pos q1.1]; omega
    · rw [biN_p, if_pos (Or.inr q1.1)]; exact p9
    · rw [hmp.2.rg 3600 3610 (by decide) (by omega) (by omega), kT d hd, tsN_p, decide_eq_false (show ¬ rkB (b F) = 3 by rw [q1.1]; decide), Bool.and_false, Bool.or_false]
    · rw [s1]; rfl
    · rw [f_X9_takesE_28, if_neg (by decide)]
      unfold f_X9_takesE_39
      rw [if_neg (by decide), l5, if_pos rfl, l6, if_pos (by rw [e33]; exact q1.1), if_neg (fun q => by have := (i8 _ p5).mp q; omega), kH.1, inb_nI (show h < 96 by omega) (by decide), chk_t, nI_clamp (by omega), seqM_eq, seqM_eq, seqM_eq, pk_un (show 3011 ≠ 3500 + h by omega), kH.1, nI_1]
  · have r68 : (if nI (b F) = 33 then (if (8 : Int32) ≤ nI (notsN hs h) then (f_X1_takesPiece_68 fu (nI (b F)) M) else (doV (f_X1_hold fu (nI (b F)) (upd M 283 (nI (notsN hs h) + 1))) (fun m_13 => some (1, m_13)))) else (f_X1_takesPiece_68 fu (nI (b F)) M)) = f_X1_takesPiece_68 fu (nI (b F)) M := by
      by_cases q : b F = 33
      · rw [if_pos (by rw [e33]; exact q), if_pos ((i8 _ p5).mpr (by omega))]
      · rw [if_neg (by rw [e33]; exact q)]
    rw [r68]
    by_cases q2 : b F = 40 ∧ br < 8
    · right
      unfold f_X1_takesPiece_68
      rw [if_pos (by rw [e40]; exact q2.1), c5, if_neg (fun q => by have := (i8 _ p4).mp q; omega), seqM_eq, nI_1]
      obtain ⟨M2, s1, s2, s3, s4⟩ := hold_ev (fu := fu) (x := b F) (m := upd M 282 (nI (br + 1))) (hs := hs) (h := h) (by omega) (by rw [pk_un (by decide)]; exact c7.1) (fun i hi => by rw [pk_un (by omega)]; exact c7.2.2.1 i hi)
      have fr2 : Fr [(281, 283), (1000, 1096)] M M2 := fr_tr (Fr.up.inc (by decide)) (s4.inc (by decide))
      have hmp := mpush (x := b F) (y := encS (b F)) (by omega) kH rfl
      have e10 : encS (b F) = -11 := by rw [q2.1]; decide
      rw [e10] at hmp
      have hmp2 : HdM (psh hs h (b F)) (h + 1) c z (upd (upd (upd mm (3500 + h) (-11)) 3011 (nI (h + 1))) (3600 + (br + 1)) 0) := hmp.1.fr (L := [(3600, 3610)]) (by omega) (fun q hq => by
        have p1 := hq (3600, 3610) (by decide)
        simp only at p1
        rw [pk_un (by omega)]) (by decide) (by decide) (by decide) (by decide)
      have fr3 : Fr [(3011, 3012), (3500, 3596), (3600, 3610)] mm (upd (upd (upd mm (3500 + h) (-11)) 3011 (nI (h + 1))) (3600 + (br + 1)) 0) := fun q hq => by
        have p1 := hq (3600, 3610) (by decide)
        have p2 := hq (3011, 3012) (by decide)
        have p3 := hq (3500, 3596) (by decide)
        simp only at p1 p2 p3
        rw [pk_un (by omega), pk_un (by omega), pk_un (by omega)]
      refine tail (br + 1) (psh hs h (b F)) M2 _ rfl ⟨c0.fr (fr2.inc (by decide)), ?_, ?_, ?_, ?_, ?_, ?_, s2, ?_, s3, fun i hi => ?_, ?_⟩ (fr2.inc (by decide)) (fr3.inc (by decide)) ⟨by omega, by omega, okL_p p2 (by rw [q2.1]; exact Or.inr (Or.inr (Or.inl rfl))) (fun k _ => by rw [q2.1]; exact Or.inl rfl), ?_, by omega, ?_, p6, p7, p8, ?_⟩ hmp2 (by rw [fr3.rg 3003 3004 (by decide) (by decide) (by decide)]; exact l3) (by rw [fr3.rg 3007 3008 (by decide) (by decide) (by decide)]; exact l7) (by rw [fr3.rg 3008 3009 (by decide) (by decide) (by decide)]; exact k8) (by rw [fr3.rg 3010 3011 (by decide) (by decide) (by decide)]; exact k10) (fun d hd => ?_) _ _ ?_ ?_
      · rw [fr2.rg 286 287 (by decide) (by decide) (by decide)]; exact c1
      · rw [fr2.rg 287 288 (by decide) (by decide) (by decide)]; exact c2
      · rw [fr2.rg 284 285 (by decide) (by decide) (by decide)]; exact c3
      · rw [fr2.rg 372 373 (by decide) (by decide) (by decide)]; exact c4
      · rw [s4.rg 282 283 (by decide) (by decide) (by decide), pk_us]
      · rw [fr2.rg 373 374 (by decide) (by decide) (by decide)]; exact c6
      · rw [fr2.rg 374 375 (by decide) (by decide) (by decide)]; exact c7.2.1
      · rw [fr2.rg 2444 2540 (by decide) (by omega) (by omega)]; exact c7.2.2.2.1 i hi
      · rw [fr2.rg 283 284 (by decide) (by decide) (by decide), notsN_p, if_neg (by omega)]; exact c7.2.2.2.2
      · rw [opN_p, if_pos q2.1, p3]
      · rw [notsN_p, if_neg (by omega)]; exact p5
      · rw [biN_p, if_pos (Or.inl q2.1)]; exact p9
      · rw [tsN_p, decide_eq_false (show ¬ rkB (b F) = 3 by rw [q2.1]; decide), Bool.and_false, Bool.or_false]
        by_cases dd : d = br + 1
        · subst dd
          rw [pk_us, bz_f]
          rw [tsN_iff]
          rintro ⟨i, hi, ho, _⟩
          have := opN_mono (hs := hs) (show i ≤ h by omega)
          omega
        · rw [pk_un (by omega), hmp.2.rg 3600 3610 (by decide) (by omega) (by omega), kT d (by omega)]
      · rw [s1]; rfl
      · rw [f_X9_takesE_28, if_neg (by decide)]
        unfold f_X9_takesE_39 f_X9_takesE_97
        rw [if_neg (by decide), l5, if_pos rfl, l6, if_neg (by rw [e33]; omega), if_pos rfl, if_pos (by rw [e40]; exact q2.1), if_neg (fun q => by have := (i8 _ p4).mp q; omega), kH.1, inb_nI (show h < 96 by omega) (by decide), chk_t, nI_clamp (by omega), seqM_eq, seqM_eq, seqM_eq, pk_un (show 3011 ≠ 3500 + h by omega), kH.1, nI_1, nI_1, inb_nI (show br + 1 < 10 by omega) (by decide), chk_t, nI_clamp (by omega), seqM_eq]
        rfl
    · left
      rw [no68 q2]
      refine both_no hn f2 (L := M) ?_ ?_ k0 d3
      · rw [doI_some, isB_0, chk_t, doI_some, if_pos rfl, d2]
      · rw [r_part (fun q => q1 ⟨by rw [l6] at q; rw [← e33]; exact q.2.1, Nat.lt_of_not_le (fun q3 => q.2.2 ((i8 _ p5).mpr q3))⟩) (fun q => q2 ⟨by rw [l6] at q; rw [← e40]; exact q.2.1, Nat.lt_of_not_le (fun q3 => q.2.2 ((i8 _ p4).mpr q3))⟩), e_no (p_no (by rw [l5]; decide) (by rw [l5]; decide))]
end PIECB
