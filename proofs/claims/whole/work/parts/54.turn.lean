/-! PURE: one turn of both readers: what both hold -/
def GL (w e : Int32) (t n : Nat) : Prop := (w = 1 ∧ e = nI t) ∨ (w = 0 ∧ ∀ p, t ≤ p → p ≤ n → ¬ nI p = e)
def hR (hs : Nat → Nat) (du h : Nat) : Nat := if du = 1 then h else popTo hs 6 h
def CS (b : Nat → Nat) (n key t : Nat) (w : Int32) (du br a : Nat) (hs : Nat → Nat) (h : Nat) (c : Row) (z : Nat) (m : Mem) : Prop := TpC b n m ∧ m 286 = nI t ∧ m 287 = w ∧ m 284 = nI du ∧ m (tf 14 0) = nI key ∧ m 282 = nI br ∧ m (tf 14 1) = nI a ∧ HdC hs h c z m
def MS (b : Nat → Nat) (n key t : Nat) (e : Int32) (du br a : Nat) (hs : Nat → Nat) (h : Nat) (c : Row) (z : Nat) (m : Mem) : Prop := TpM b n m ∧ Tok b n t e m ∧ m 3008 = nI key ∧ m 3010 = nI a ∧ HdM hs (hR hs du h) (putS hs h (hR hs du h) z c) (z + (h - hR hs du h)) m ∧ ∀ d, d ≤ br → m (3600 + d) = bz (tsN hs d h = true)
def PS (n key t du br a : Nat) (hs : Nat → Nat) (h : Nat) (c : Row) (z : Nat) : Prop := t ≤ n ∧ z + h + 3 ≤ t ∧ okL hs h ∧ opN hs h = br ∧ br ≤ 8 ∧ notsN hs h ≤ 8 ∧ a ≤ z ∧ CV key c z ∧ key < 3 ∧ dN c z + du = biN hs h + 1
def Out (key : Nat) (r q : Int32) (mc mm : Mem) : Prop := (q = 0 ∧ ∃ s, s ≤ 96 ∧ r = nI s ∧ mm 3004 = nI s) ∨ (q = 1 ∧ r = -1 ∧ ∃ (c : Row) (z a : Nat), RPN key c z ∧ a ≤ 96 ∧ mc (tf 14 0) = nI key ∧ mc (tf 14 1) = nI a ∧ mc (tf 14 2) = nI z ∧ (∀ i, i < z → mc (2444 + i) = c i) ∧ mm 3008 = nI key ∧ mm 3010 = nI a ∧ mm 3009 = nI z ∧ ∀ i, i < z → mm (3400 + i) = encM (c i))
/-- class and reference, before one turn -/
def ST (b : Nat → Nat) (n key t : Nat) (w e : Int32) (du br a : Nat) (hs : Nat → Nat) (h : Nat) (c : Row) (z : Nat) (mc mm : Mem) : Prop := PS n key t du br a hs h c z ∧ GL w e t n ∧ CS b n key t w du br a hs h c z mc ∧ MS b n key t e du br a hs h c z mm
def Ends (key : Nat) (A B : Option (Int32 × Mem)) (mc mm : Mem) : Prop := ∃ (r q : Int32) (mc' mm' : Mem), A = some (r, mc') ∧ B = some (q, mm') ∧ Fr FC mc mc' ∧ Fr FM mm mm' ∧ Out key r q mc' mm'
def GoOn (fu f g j : Nat) (b : Nat → Nat) (n key t : Nat) (A B : Option (Int32 × Mem)) (mc mm : Mem) : Prop := ∃ (t2 : Nat) (w2 e2 : Int32) (du2 br2 a2 : Nat) (hs2 : Nat → Nat) (h2 : Nat) (c2 : Row) (z2 : Nat) (mc' mm' : Mem), t < t2 ∧ (du2 = 0 ∨ du2 = 1) ∧ A = f_X1_fault_6 fu f (nI (j + 1)) mc' ∧ B = f_X9_takesE_28 fu g (nI br2) (nI (notsN hs2 (hR hs2 du2 h2))) (nI du2) mm' ∧ Fr FC mc mc' ∧ Fr FM mm mm' ∧ ST b n key t2 w2 e2 du2 br2 a2 hs2 h2 c2 z2 mc' mm'
section TURN
variable {fu f g j n key t du br a h z F : Nat} {b hs : Nat → Nat} {w e : Int32} {c : Row} {m M mc mm : Mem}
theorem hR_1 : hR hs 1 h = h := by unfold hR; rw [if_pos rfl]
theorem hR_0 : hR hs 0 h = popTo hs 6 h := by unfold hR; rw [if_neg (by decide)]
theorem notsN_mono {i k : Nat} (hij : i ≤ k) : notsN hs i ≤ notsN hs k := by
  induction k with
  | zero => rw [show i = 0 by omega]; exact Nat.le_refl _
  | succ k ih =>
    by_cases e : i = k + 1
    · rw [e]; exact Nat.le_refl _
    · have := ih (by omega)
      rw [notsN]; omega
theorem GL.glue (hG : GL w e t n) (hn : n ≤ 96) (h1 : t ≤ F) (h2 : F ≤ n) : nI F = e ↔ (¬ w = 0 ∧ F = t) := by
  rcases hG with ⟨q1, q2⟩ | ⟨q1, q2⟩
  · rw [q2, nI_eqP (by omega) (by omega), q1]
    exact ⟨fun z => ⟨by decide, z⟩, fun z => z.2⟩
  · exact ⟨fun z => absurd z (q2 F h1 h2), fun z => absurd q1 z.1⟩
theorem GL.sign (hG : GL w e t n) (hn : n ≤ 96) {t2 : Nat} (htn : t ≤ n) (h1 : t < t2) : GL 0 e t2 n := by
  refine Or.inr ⟨rfl, fun p p1 p2 => ?_⟩
  rcases hG with ⟨_, q2⟩ | ⟨_, q2⟩
  · rw [q2, nI_eqP (by omega) (by omega)]; omega
  · exact q2 p (by omega) p2
theorem GL.bit (hG : GL w e t n) : w = 0 ∨ w = 1 := by
  rcases hG with ⟨q, _⟩ | ⟨q, _⟩
  · exact Or.inr q
  · exact Or.inl q
/-- the class's step -/
theorem cstep (hfu : 97 < fu) (hP : PS n key t du br a hs h c z) (hG : GL w e t n) (hC : CS b n key t w du br a hs h c z mc) : ∃ M, f_X1_step fu mc = some M ∧ CS b n key (tT b n t) (bz (tF b n t < tE b n t)) du br a hs h c z M ∧ M 285 = nI (tF b n t) ∧ M 288 = bz (tF b n t < tE b n t ∧ nI (tF b n t) = e) ∧ Fr [(285, 289)] mc M := by
  obtain ⟨hT, c1, c2, c3, c4, c5, c6, c7⟩ := hC
  have hn := hT.1
  obtain ⟨f1, f2⟩ := tF_ok (b := b) hP.1
  obtain ⟨M, s1, s2, s3, s4, s5, s6⟩ := step_ev (fu := fu) hfu (by have := hP.1; omega) hP.1 hG.bit hT c1 c2
  have hzh : z + h ≤ 96 := by have := hP.1; have := hP.2.1; omega
  refine ⟨M, s1, ⟨hT.fr (s6.inc (by decide)), s3, s4, ?_, ?_, ?_, ?_, c7.fr hzh s6 (by decide) (by decide) (by decide) (by decide) (by decide)⟩, s2, ?_, s6⟩
  · rw [s6.rg 284 285 (by decide) (by decide) (by decide)]; exact c3
  · rw [s6.rg 372 373 (by decide) (by decide) (by decide)]; exact c4
  · rw [s6.rg 282 283 (by decide) (by decide) (by decide)]; exact c5
  · rw [s6.rg 373 374 (by decide) (by decide) (by decide)]; exact c6
  · rw [s5]
    have := hG.glue hn f1 f2
    by_cases q : tF b n t < tE b n t ∧ nI (tF b n t) = e
    · rw [bz_t q, bz_t ⟨q.1, (this.mp q.2).1, (this.mp q.2).2⟩]
    · rw [bz_f q, bz_f (fun z => q ⟨z.1, this.mpr ⟨z.2.1, z.2.2⟩⟩)]
/-- the class at the end of the tape -/
theorem cend (hfu : 97 < fu) (hj : j ≤ t) (hF : tF b n t = n) (hP : PS n key t du br a hs h c z) (hG : GL w e t n) (hC : CS b n key t w du br a hs h c z mc) : ∃ (M : Mem) (t2 : Nat) (w2 : Int32), f_X1_fault_6 fu (f + 1) (nI j) mc = f_X1_fault_55 fu M ∧ CS b n key t2 w2 du br a hs h c z M ∧ Fr FC mc M := by
  have hn := hC.1.1
  rw [f_X1_fault_6]
  by_cases q : 96 ≤ j
  · rw [if_pos (by rw [show (96 : Int32) = nI 96 from rfl]; exact nI_le q (by have := hP.1; omega))]
    exact ⟨mc, t, w, rfl, hC, fr_nil⟩
  · rw [if_neg (by rw [show (96 : Int32) = nI 96 from rfl]; exact nI_ge (by omega) (by decide))]
    obtain ⟨M, s1, s2, s3, s4, s5⟩ := cstep hfu hP hG hC
    rw [s1, doV_some, s3, s2.1.2.1, if_neg (by rw [nI_ltP (by omega) (by omega)]; omega)]
    exact ⟨M, _, _, rfl, s2, s5.inc (by decide)⟩
/-- the class at a token -/
theorem cturn (hfu : 97 < fu) (hj : j ≤ t) (hF : tF b n t < n) (hP : PS n key t du br a hs h c z) (hG : GL w e t n) (hC : CS b n key t w du br a hs h c z mc) : ∃ M : Mem, CS b n key (tT b n t) (bz (tF b n t < tE b n t)) du br a hs h c z M ∧ M 285 = nI (tF b n t) ∧ Fr FC mc M ∧ f_X1_fault_6 fu (f + 1) (nI j) mc = if (tF b n t < tE b n t ∧ nI (tF b n t) = e) then some (nI (tF b n t), M) else doI (f_X1_goesOn fu M) (fun r_5 m_4 => if r_5 = 0 then (some ((m_4 285), m_4)) else f_X1_fault_6 fu f (nI (j + 1)) m_4) := by
  have hn := hC.1.1
  obtain ⟨f1, f2⟩ := tF_ok (b := b) hP.1
  obtain ⟨M, s1, s2, s3, s4, s5⟩ := cstep hfu hP hG hC
  refine ⟨M, s2, s3, s5.inc (by decide), ?_⟩
  rw [f_X1_fault_6, if_neg (by rw [show (96 : Int32) = nI 96 from rfl]; exact nI_ge (by omega) (by decide)), s1, doV_some, s3, s2.1.2.1, if_pos (by rw [nI_ltP (by omega) (by omega)]; exact hF), s4]
  by_cases q : tF b n t < tE b n t ∧ nI (tF b n t) = e
  · rw [if_pos q, bz_t q, if_neg (by decide)]
  · rw [if_neg q, bz_f q, if_pos rfl]
    simp only [seqM_eq, nI_1]
/-- both refuse at a token -/
theorem both_no {L : Mem} {B : Option (Int32 × Mem)} {A : Option (Int32 × Mem)} (hn : n ≤ 96) (hF : F ≤ n) (hA : A = some (nI F, L)) (hB : B = some (0, mm)) (h4 : mm 3004 = nI F) (hf : Fr FC mc L) : Ends key A B mc mm := ⟨nI F, 0, L, mm, hA, hB, hf, fr_nil, Or.inl ⟨rfl, F, by omega, rfl, h4⟩⟩
/-! the reference: ways through takesE -/
theorem r_part {x1 x2 : Int32} (h1 : ¬ (m 3005 = 3 ∧ m 3006 = 33 ∧ ¬ (8 : Int32) ≤ x2)) (h2 : ¬ (m 3005 = 3 ∧ m 3006 = 40 ∧ ¬ (8 : Int32) ≤ x1)) : f_X9_takesE_28 fu (g + 1) x1 x2 1 m = f_X9_takesE_158 fu (f_X9_takesE_28 fu g) x1 m := by
  have key : f_X9_takesE_97 fu (f_X9_takesE_28 fu g) x1 1 m = f_X9_takesE_158 fu (f_X9_takesE_28 fu g) x1 m := by
    unfold f_X9_takesE_97
    by_cases q : m 3005 = 3
    · rw [if_pos q]
      by_cases q2 : m 3006 = 40
      · rw [if_pos q2, if_pos (Decidable.of_not_not (fun z => h2 ⟨q, q2, z⟩))]
      · rw [if_neg q2]
    · rw [if_neg q]
  rw [f_X9_takesE_28, if_neg (by decide)]
  unfold f_X9_takesE_39
  rw [if_neg (by decide), key]
  by_cases q : m 3005 = 3
  · rw [if_pos q]
    by_cases q2 : m 3006 = 33
    · rw [if_pos q2, if_pos (Decidable.of_not_not (fun z => h1 ⟨q, q2, z⟩))]
    · rw [if_neg q2]
  · rw [if_neg q]
theorem r_sign {x1 x2 : Int32} (h0 : ¬ m 3005 = 0) (h1 : ¬ (m 3005 = 3 ∧ m 3006 = 41 ∧ ¬ x1 ≤ 0)) : f_X9_takesE_28 fu (g + 1) x1 x2 0 m = f_X9_takesE_237 fu (f_X9_takesE_28 fu g) x1 x2 m := by
  rw [f_X9_takesE_28, if_pos rfl, if_neg h0]
  unfold f_X9_takesE_39
  rw [if_pos rfl]
  by_cases q : m 3005 = 3
  · rw [if_pos q]
    by_cases q2 : m 3006 = 41
    · rw [if_pos q2, if_pos (Decidable.of_not_not (fun z => h1 ⟨q, q2, z⟩))]
    · rw [if_neg q2]
  · rw [if_neg q]
theorem r_no {x1 x2 : Int32} {k : Int32 → Int32 → Int32 → Mem → Option (Int32 × Mem)} (h : f_X9_signHere fu m = some (0, m)) : f_X9_takesE_237 fu k x1 x2 m = some (0, m) := by
  unfold f_X9_takesE_237
  rw [h, doI_some, if_pos rfl]
theorem p_no (h2 : ¬ m 3005 = 2) (h1 : ¬ m 3005 = 1) : f_X9_takesPart fu m = some (0, m) := by
  unfold f_X9_takesPart f_X9_takesPart_36 f_X9_takesPart_37
  rw [if_neg h1, if_neg h2, if_pos rfl]
theorem e_no {x1 : Int32} {k : Int32 → Int32 → Int32 → Mem → Option (Int32 × Mem)} (h : f_X9_takesPart fu m = some (0, m)) : f_X9_takesE_158 fu k x1 m = some (0, m) := by
  unfold f_X9_takesE_158
  rw [h, doI_some, if_pos rfl]
/-- at the end of the tape -/
theorem at_end (hfu : 97 < fu) (hj : j ≤ t) (hF : tF b n t = n) (hdu : du = 0 ∨ du = 1) (hS : ST b n key t w e du br a hs h c z mc mm) : Ends key (f_X1_fault_6 fu (f + 1) (nI j) mc) (f_X9_takesE_28 fu (g + 1) (nI br) (nI (notsN hs (hR hs du h))) (nI du) mm) mc mm := by
  obtain ⟨hP, hG, hC, hM⟩ := hS
  have hn := hC.1.1
  obtain ⟨M, t2, w2, e1, hC2, fr2⟩ := cend (f := f) hfu hj hF hP hG hC
  rw [e1]
  obtain ⟨c0, c1, c2, c3, c4, c5, c6, c7⟩ := hC2
  obtain ⟨mT, ⟨k0, k1, -⟩, k8, k10, kH, kT⟩ := hM
  obtain ⟨k5, k3, k7⟩ := k1 hF
  obtain ⟨p0, p1, p2, p3, p4, p5, p6, p7, p8, p9⟩ := hP
  unfold f_X1_fault_55
  rw [c4, if_neg (by rw [show (0 : Int32) = nI 0 from rfl, nI_ltP (by omega) (by decide)]; omega), c3]
  rcases hdu with rfl | rfl
  · rw [hR_0] at kH
    rw [show nI 0 = (0 : Int32) from rfl, if_pos rfl, c5]
    have le := popTo_le (hs := hs) (r := 6) h
    have le1 := popTo_le (hs := hs) (r := 1) (popTo hs 6 h)
    have E28 : ∃ M2, f_X9_takesE_28 fu (g + 1) (nI br) (nI (notsN hs (hR hs 0 h))) 0 mm = (if nI br = 0 then some (1, M2) else some (0, M2)) ∧ HdM hs (popTo hs 1 h) (putS hs h (popTo hs 1 h) z c) (z + (h - popTo hs 1 h)) M2 ∧ Fr [(3011, 3012), (3009, 3010), (3400, 3496)] mm M2 := by
      obtain ⟨M2, s1, s2, s3⟩ := settle_ev (r := 0) hfu (by decide) (by omega) (fun i hi => p2.1 i (by omega)) kH
      rw [if_pos rfl, popTo_comp (by decide)] at s2
      rw [popTo_comp (by decide)] at le1
      rw [putS_comp le1 le, show z + (h - popTo hs 6 h) + (popTo hs 6 h - popTo hs 1 h) = z + (h - popTo hs 1 h) by omega] at s2
      refine ⟨M2, ?_, s2, s3⟩
      rw [f_X9_takesE_28, if_pos rfl, if_pos k5, show (0 : Int32) = nI 0 from rfl, s1, doV_some]
    obtain ⟨M2, q1, q2, q3⟩ := E28
    have fr3 : Fr FM mm M2 := q3.inc (by decide)
    by_cases b0 : br = 0
    · subst b0
      rw [show nI 0 = (0 : Int32) from rfl] at q1 ⊢
      rw [if_pos (by decide)]
      obtain ⟨M3, s1, s2, s3⟩ := release_ev (r := 1) hfu (by decide) (by decide) (by omega) p2.1 c7
      rw [show (1 : Int32) = nI 1 from rfl, s1, doV_some]
      rw [if_pos rfl] at q1
      have hp0 : popTo hs 1 h = 0 := by
        cases hk : popTo hs 1 h with
        | zero => rfl
        | succ k =>
          have tp := popTo_top hk
          have eo := opN_pop (hs := hs) (r := 1) (by decide) h
          have lk := popTo_le (hs := hs) (r := 1) h
          have k40 : hs k = 40 := Decidable.of_not_not (fun q => by have := (rk_pos (p2.1 k (by omega)) q).1; omega)
          rw [hk, opN, if_pos k40] at eo
          omega
      have cv := cv_pop (r := 1) (by decide) h z c p2.1 p7 (by omega)
      rw [hp0] at cv s2 q2
      refine ⟨-1, 1, M3, M2, rfl, q1, fr_tr fr2 (s3.inc (by decide)), fr3, Or.inr ⟨rfl, rfl, _, _, a, ⟨by omega, by rw [cv.2]; exact Nat.le_add_left _ _, cv.1⟩, by omega, ?_, ?_, s2.2.1, s2.2.2.2.1, ?_, ?_, q2.2.1, q2.2.2.2⟩⟩
      · rw [s3.rg 372 373 (by decide) (by decide) (by decide)]; exact c4
      · rw [s3.rg 373 374 (by decide) (by decide) (by decide)]; exact c6
      · rw [q3.rg 3008 3009 (by decide) (by decide) (by decide)]; exact k8
      · rw [q3.rg 3010 3011 (by decide) (by decide) (by decide)]; exact k10
    · rw [if_neg (by rw [show (0 : Int32) = nI 0 from rfl]; exact nI_ge (by omega) (by omega))]
      rw [if_neg (by rw [show (0 : Int32) = nI 0 from rfl, nI_eqP (by omega) (by decide)]; exact b0)] at q1
      exact ⟨M 280, 0, M, M2, rfl, q1, fr2, fr3, Or.inl ⟨rfl, n, hn, c0.2.1, by rw [q3.rg 3004 3005 (by decide) (by decide) (by decide), k0, hF]⟩⟩
  · rw [if_neg (by decide)]
    refine ⟨M 280, 0, M, mm, rfl, ?_, fr2, fr_nil, Or.inl ⟨rfl, n, hn, c0.2.1, by rw [k0, hF]⟩⟩
    rw [show nI 1 = (1 : Int32) from rfl, r_part (by rw [k5]; exact fun z => absurd z.1 (by decide)) (by rw [k5]; exact fun z => absurd z.1 (by decide)), e_no (p_no (by rw [k5]; decide) (by rw [k5]; decide))]
end TURN
