/-! PURE: a token where a piece is due -/
section PIECE
variable {fu f g j n key t du br a h z F : Nat} {b hs : Nat → Nat} {w e : Int32} {c : Row} {m M mc mm : Mem}
theorem tok_le (hF : tF b n t < n) (hL : isLe b (tF b n t)) : tE b n t = endOf (isLe b) n (tF b n t) ∧ tF b n t < tE b n t ∧ tT b n t = tE b n t := by
  have e1 := endOf_on (P := isLe b) hF hL
  have e2 := (endOf_ge (P := isLe b) (n := n) (n - (tF b n t + 1)) (tF b n t + 1) (Nat.le_refl _)).1
  have e3 : tE b n t = endOf (isLe b) n (tF b n t) := by unfold tE; rw [if_neg (by omega)]
  refine ⟨e3, by omega, ?_⟩
  unfold tT
  rw [if_pos (by omega)]
theorem tok_fi (hF : tF b n t < n) (hL : isFi b (tF b n t)) : tE b n t = endOf (isFi b) n (tF b n t) ∧ tF b n t < tE b n t ∧ tT b n t = tE b n t := by
  have e1 := endOf_on (P := isFi b) hF hL
  have e2 := (endOf_ge (P := isFi b) (n := n) (n - (tF b n t + 1)) (tF b n t + 1) (Nat.le_refl _)).1
  have e3 : tE b n t = endOf (isFi b) n (tF b n t) := by unfold tE; rw [if_pos (endOf_off (fun q => by have := q.2; unfold isLe at this; unfold isFi at hL; omega))]
  refine ⟨e3, by omega, ?_⟩
  unfold tT
  rw [if_pos (by omega)]
theorem tok_sg (hL : ¬ isLe b (tF b n t)) (hD : ¬ isFi b (tF b n t)) : ¬ tF b n t < tE b n t ∧ tT b n t = tF b n t + 1 := by
  have e3 : tE b n t = tF b n t := by unfold tE; rw [if_pos (endOf_off (fun q => hL q.2)), endOf_off (fun q => hD q.2)]
  refine ⟨by omega, ?_⟩
  unfold tT
  rw [if_neg (by omega)]
theorem goes_1 (hC : CS b n key t w 1 br a hs h c z m) (hk : key < 3) : f_X1_goesOn fu m = doI (f_X1_takesPiece fu m) (fun r_7 m_6 => chk (isB r_7) (some (r_7, m_6))) := by
  obtain ⟨c0, c1, c2, c3, c4, c5, c6, c7⟩ := hC
  unfold f_X1_goesOn
  rw [c4, if_pos (nI_pos' (by omega)), c3, if_neg (by decide)]
theorem goes_0 (hC : CS b n key t w 0 br a hs h c z m) (hk : key < 3) : f_X1_goesOn fu m = doI (f_X1_takesSign fu m) (fun r_7 m_6 => chk (isB r_7) (some (r_7, m_6))) := by
  obtain ⟨c0, c1, c2, c3, c4, c5, c6, c7⟩ := hC
  unfold f_X1_goesOn
  rw [c4, if_pos (nI_pos' (by omega)), c3, if_pos (by decide)]
/-- a token glued to a word -/
theorem at_glued (hfu : 97 < fu) (hj : j ≤ t) (hF : tF b n t < n) (hdu : du = 0 ∨ du = 1) (hw : isLe b (tF b n t) ∨ isFi b (tF b n t)) (he : nI (tF b n t) = e) (hS : ST b n key t w e du br a hs h c z mc mm) : Ends key (f_X1_fault_6 fu (f + 1) (nI j) mc) (f_X9_takesE_28 fu (g + 1) (nI br) (nI (notsN hs (hR hs du h))) (nI du) mm) mc mm := by
  obtain ⟨hP, hG, hC, hM⟩ := hS
  have hn := hC.1.1
  obtain ⟨M, d1, d2, d3, d4⟩ := cturn (f := f) hfu hj hF hP hG hC
  obtain ⟨mT, ⟨k0, k1, kL, kF, kS⟩, -⟩ := hM
  have h4 : mm 3005 = 4 := by
    rcases hw with q | q
    · rw [(kL hF q).1, if_pos he]
    · rw [(kF hF q).1, if_neg (fun z => z.1 he)]
  have hE : tF b n t < tE b n t := by
    rcases hw with q | q
    · exact (tok_le hF q).2.1
    · exact (tok_fi hF q).2.1
  rw [d4, if_pos ⟨hE, he⟩]
  refine both_no hn (by omega) rfl ?_ k0 d3
  rcases hdu with rfl | rfl
  · rw [show nI 0 = (0 : Int32) from rfl, r_sign (by rw [h4]; decide) (by rw [h4]; exact fun z => absurd z.1 (by decide)), r_no (sign_off (by rw [h4]; decide))]
  · rw [show nI 1 = (1 : Int32) from rfl, r_part (by rw [h4]; exact fun z => absurd z.1 (by decide)) (by rw [h4]; exact fun z => absurd z.1 (by decide)), e_no (p_no (by rw [h4]; decide) (by rw [h4]; decide))]
/-- an atom taken by both -/
theorem at_atom {y w2 : Int32} {M : Mem} {E : Nat} (hfu : 97 < fu) (hn : n ≤ 96) (hP : PS n key t 1 br a hs h c z) (hM : MS b n key t e 1 br a hs h c z mm) (hFt : t ≤ F) (hFE : F < E) (hE : E ≤ n) (hC2 : CS b n key E 1 1 br a hs h c z M) (hf2 : Fr FC mc M) (h3 : mm 3003 = nI E) (h7 : mm 3007 = nI E) (hy : y = encM w2) (hA : isA w2) (hw : w2 ≤ 9999 ∧ (¬ key = 0 → ¬ w2 = -3))
    {A B : Option (Int32 × Mem)} (hAA : A = doI (doV (f_X1_takesAtom fu w2 M) (fun m_2 => some (1, m_2))) (fun r_7 m_6 => if r_7 = 0 then (some ((m_6 285), m_6)) else f_X1_fault_6 fu f (nI (j + 1)) m_6)) (hBB : B = doI (f_X9_takesPart_87 fu (nI z) y mm) (fun r_3 m_2 => if r_3 = 0 then (some (0, m_2)) else (f_X9_takesE_172 fu (f_X9_takesE_28 fu g) (nI br) 0 m_2))) : GoOn fu f g j b n key t A B mc mm := by
  obtain ⟨p0, p1, p2, p3, p4, p5, p6, p7, p8, p9⟩ := hP
  obtain ⟨mT, -, k8, k10, kH, kT⟩ := hM
  rw [hR_1, putS_0, Nat.sub_self, Nat.add_zero] at kH
  obtain ⟨c0, c1, c2, c3, c4, c5, c6, c7⟩ := hC2
  obtain ⟨M2, a1, a2, a3, a4, a5⟩ := atom_ev (fu := fu) (w := w2) (by omega) c6 c7
  obtain ⟨M3, b1, b2, b3, b4, b5⟩ := part87 (y := y) (w := w2) hfu hE (by omega) p2.1 mT h3 h7 k10 kH hy
  have le := popTo_le (hs := hs) (r := 6) h
  have cv := cv_push (w := w2) p7 ⟨fun _ => hw, fun q => absurd hA q, fun q => absurd hA (isA_not33 q), fun q => absurd hA q⟩
  rw [if_pos hA] at cv
  refine ⟨E, 1, nI E, 0, br, a + 1, hs, h, upd c z w2, z + 1, M2, M3, by omega, Or.inl rfl, ?_, ?_, fr_tr hf2 (a5.inc (by decide)), b5.inc (by decide), ⟨hE, by omega, p2, p3, p4, p5, by omega, cv.1, p8, by rw [cv.2]; omega⟩, Or.inl ⟨rfl, rfl⟩, ⟨c0.fr (a5.inc (by decide)), ?_, ?_, a4, ?_, ?_, a3, a2⟩, ⟨mT.fr (b5.inc (by decide)), b4, ?_, b3, ?_, fun d hd => ?_⟩⟩
  · rw [hAA, a1, doV_some, doI_some, if_neg (by decide)]
  · rw [hBB, b1, doI_some, if_neg (by decide)]
    unfold f_X9_takesE_172
    rw [nots_ev hfu (by omega) (fun i hi => p2.1 i (by omega)) b2, doI_some, hR_0]
    rfl
  · rw [a5.rg 286 287 (by decide) (by decide) (by decide)]; exact c1
  · rw [a5.rg 287 288 (by decide) (by decide) (by decide)]; exact c2
  · rw [a5.rg 372 373 (by decide) (by decide) (by decide)]; exact c4
  · rw [a5.rg 282 283 (by decide) (by decide) (by decide)]; exact c5
  · rw [b5.rg 3008 3009 (by decide) (by decide) (by decide)]; exact k8
  · rw [hR_0]; exact b2
  · rw [b5.rg 3600 3610 (by decide) (by omega) (by omega)]; exact kT d hd
theorem u16 : ∀ x, x < 256 → ((nI x).toUInt32 % 65536).toInt32 = nI x := by decide +kernel
theorem name_is {x : Nat} : nameN key x = -1 ∨ nameN key x = 0 ∨ nameN key x = 1 ∨ (key = 0 ∧ nameN key x = 2) := by
  unfold nameN
  (repeat' split) <;> simp_all
theorem enc_num {v : Nat} (hv : v < 10000) : encM (nI v) = nI v ∧ isA (nI v) ∧ nI v ≤ 9999 ∧ ¬ nI v = -3 := by
  have h0 : ¬ nI v < 0 := nI_pos (by omega)
  have h3 : ¬ nI v < -3 := fun q => h0 (Int32.lt_trans q (by decide))
  refine ⟨by unfold encM; rw [if_neg h3, if_neg h0], h3, nI_le (b := 9999) (by omega) (by decide), fun q => h0 (by rw [q]; decide)⟩
theorem num_ok (hb : ∀ k, k < n → b k < 256) {E : Nat} (hE : E ≤ n) (h1 : F ≤ E) (h4 : E - F ≤ 4) (hd : ∀ j, F ≤ j → j < E → isFi b j) : numV b F (E - F) < 10000 := by
  have := numV_lt (b := b) (n := n) (s := F) hb (E - F) h4 (by omega) (fun i hi => hd (F + i) (by omega) (by omega))
  have : 10 ^ (E - F) ≤ 10 ^ 4 := Nat.pow_le_pow_right (by decide) h4
  omega
theorem doI_as {x : Option (Int32 × Mem)} {k1 : Int32 → Mem → Option (Int32 × Mem)} {k2 : Int32 → Mem → Option (Int32 × Mem)} : doI (doI x k1) k2 = doI x (fun r m => doI (k1 r m) k2) := by
  cases x with
  | none => rfl
  | some p => rfl
theorem doV_as {x : Option Mem} {k1 : Mem → Option (Int32 × Mem)} {k2 : Int32 → Mem → Option (Int32 × Mem)} : doI (doV x k1) k2 = doV x (fun m => doI (k1 m) k2) := by
  cases x with
  | none => rfl
  | some p => rfl
/-- a name -/
theorem at_name (hfu : 97 < fu) (hj : j ≤ t) (hF : tF b n t < n) (hL : isLe b (tF b n t)) (he : ¬ nI (tF b n t) = e) (hS : ST b n key t w e 1 br a hs h c z mc mm) : Ends key (f_X1_fault_6 fu (f + 1) (nI j) mc) (f_X9_takesE_28 fu (g + 1) (nI br) (nI (notsN hs (hR hs 1 h))) 1 mm) mc mm ∨ GoOn fu f g j b n key t (f_X1_fault_6 fu (f + 1) (nI j) mc) (f_X9_takesE_28 fu (g + 1) (nI br) (nI (notsN hs (hR hs 1 h))) 1 mm) mc mm := by
  obtain ⟨hP, hG, hC, hM⟩ := hS
  have hn := hC.1.1
  have hk := hP.2.2.2.2.2.2.2.2.1
  obtain ⟨f1, f2⟩ := tF_ok (b := b) hP.1
  obtain ⟨M, d1, d2, d3, d4⟩ := cturn (f := f) hfu hj hF hP hG hC
  obtain ⟨t1, t2, t3⟩ := tok_le hF hL
  rw [bz_t t2, t3] at d1
  have hMM := hM
  obtain ⟨mT, ⟨k0, k1, kL, kF, kS⟩, k8, k10, kH, kT⟩ := hM
  obtain ⟨l5, l6, l3, l7⟩ := kL hF hL
  rw [if_neg he] at l5
  rw [← t1] at l3 l7
  have tE2 := (tE_ok (b := b) hP.1).2
  generalize tF b n t = F at *
  generalize tE b n t = E at *
  have hx := (mT.2.2 F hF).2
  rw [d4, if_neg (fun q => he q.2), goes_1 d1 hk]
  have hBB : f_X9_takesE_28 fu (g + 1) (nI br) (nI (notsN hs (hR hs 1 h))) 1 mm = f_X9_takesE_158 fu (f_X9_takesE_28 fu g) (nI br) mm := r_part (by rw [l5]; exact fun z => absurd z.1 (by decide)) (by rw [l5]; exact fun z => absurd z.1 (by decide))
  have hCN : ∀ k2 : Int32 → Mem → Option (Int32 × Mem), doI (doI (f_X1_takesPiece fu M) (fun r_7 m_6 => chk (isB r_7) (some (r_7, m_6)))) k2 = if (E - F = 1 ∧ 0 ≤ nameN key (b F)) then doI (doV (f_X1_takesAtom fu ((-1) - nameN key (b F)) M) (fun m_2 => some (1, m_2))) k2 else k2 0 M := by
    intro k2
    have hTN : f_X1_takesName fu (nI (b F)) M = if (E - F = 1 ∧ 0 ≤ nameN key (b F)) then doV (f_X1_takesAtom fu ((-1) - nameN key (b F)) M) (fun m_2 => some (1, m_2)) else some (0, M) := by
      have h33 : f_X1_takesName fu (nI (b F)) M = f_X1_takesName_33 fu (nI (b F)) (3 + key) M := by
        unfold f_X1_takesName
        rw [d1.2.2.2.2.1]
        have : key = 0 ∨ key = 1 ∨ key = 2 := by omega
        rcases this with rfl | rfl | rfl <;> rfl
      rw [h33]
      unfold f_X1_takesName_33
      rw [cname_ev (g := fu - 5) (by omega) hk hx, doI_some, d2, d1.2.1, pk_sub (by omega)]
      have e1 : (nI (E - F) = 1) = (E - F = 1) := nI_eqP (b := 1) (by omega) (by decide)
      by_cases q : E - F = 1
      · rw [if_pos (by rw [e1]; exact q)]
        by_cases q2 : 0 ≤ nameN key (b F)
        · rw [if_pos q2, if_pos ⟨q, q2⟩]
        · rw [if_neg q2, if_neg (fun z => q2 z.2)]
      · rw [if_neg (by rw [e1]; exact q), if_neg (fun z => q z.1)]
    unfold f_X1_takesPiece
    rw [d2, inb_nI (show F < 96 by omega) (by decide), chk_t, nI_clamp (by omega), (d1.1.2.2 F hF).1, seqM_eq, digit_ev hx, doI_some, bz_f (fun q => by unfold isLe at hL; omega), if_pos rfl, letter_ev hx, doI_some, bz_t hL, if_neg (by decide), u16 _ hx, hTN]
    by_cases q : E - F = 1 ∧ 0 ≤ nameN key (b F)
    · rw [if_pos q, if_pos q]
      cases hta : f_X1_takesAtom fu (-1 - nameN key (b F)) M with
      | none => rfl
      | some p => rfl
    · rw [if_neg q, if_neg q]
      rfl
  rw [hCN]
  by_cases q : E - F = 1 ∧ 0 ≤ nameN key (b F)
  · right
    rw [if_pos q]
    have nm := name_is (key := key) (x := b F)
    have hq : ∀ r : Int32, 0 ≤ r → r = 0 ∨ r = 1 ∨ (key = 0 ∧ r = 2) → encM (-1 - r) = 10000 + r ∧ isA (-1 - r) ∧ -1 - r ≤ 9999 ∧ (¬ key = 0 → ¬ -1 - r = -3) := by
      intro r _ hr
      rcases hr with rfl | rfl | ⟨k, rfl⟩
      · exact ⟨by decide, by decide, by decide, fun _ => by decide⟩
      · exact ⟨by decide, by decide, by decide, fun _ => by decide⟩
      · exact ⟨by decide, by decide, by decide, fun z => absurd k z⟩
    have nm : nameN key (b F) = 0 ∨ nameN key (b F) = 1 ∨ (key = 0 ∧ nameN key (b F) = 2) := by
      rcases nm with u | u
      · have := q.2; rw [u] at this; exact absurd this (by decide)
      · exact u
    obtain ⟨v1, v2, v3, v4⟩ := hq _ q.2 nm
    refine at_atom hfu hn hP hMM f1 (by omega) tE2 d1 d3 l3 l7 (y := 10000 + nameN key (b F)) v1.symm v2 ⟨v3, v4⟩ rfl ?_
    rw [hBB]
    unfold f_X9_takesE_158
    have : f_X9_takesPart fu mm = f_X9_takesPart_87 fu (nI z) (10000 + nameN key (b F)) mm := by
      have z9 : mm 3009 = nI z := by
        have := kH.2.1
        rw [hR_1, Nat.sub_self, Nat.add_zero] at this
        exact this
      unfold f_X9_takesPart f_X9_takesPart_37 f_X9_takesPart_52
      rw [l5, if_pos rfl, l3, k0, pk_sub (by omega), q.1, if_pos (by decide), l6, mname_ev hk hx k8, doI_some, if_neg (Int32.not_lt.mpr q.2), l5, if_neg (by decide), if_neg (by decide), if_neg (by decide), l6, mname_ev hk hx k8, doI_some, z9]
    rw [this]
  · left
    rw [if_neg q, if_pos rfl]
    refine both_no hn f2 (by rw [d2]) ?_ k0 d3
    rw [hBB]
    refine e_no ?_
    unfold f_X9_takesPart f_X9_takesPart_36 f_X9_takesPart_37
    have e1 : (nI (E - F) = 1) = (E - F = 1) := nI_eqP (b := 1) (by omega) (by decide)
    rw [l5, if_pos rfl, l3, k0, pk_sub (by omega)]
    by_cases q2 : E - F = 1
    · have q3 : nameN key (b F) < 0 := Int32.not_le.mp (fun z => q ⟨q2, z⟩)
      rw [if_pos (by rw [e1]; exact q2), l6, mname_ev hk hx k8, doI_some, if_pos q3, l5, if_neg (by decide), if_pos rfl]
    · rw [if_neg (by rw [e1]; exact q2), if_neg (by decide), if_pos rfl]
end PIECE
