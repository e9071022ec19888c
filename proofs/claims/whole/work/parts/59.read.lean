/-! PURE: the key, and all that is read -/
abbrev KH (b : Nat → Nat) (F E i : Nat) : Prop := E - F = lnB i ∧ restK b F i 0 (lnB i) = true
section READ
variable {fu f g j n key t i F E : Nat} {b : Nat → Nat} {m M mc mm : Mem}
theorem KH_le (hi : i < 3) (h : KH b F E i) : isLe b F ∧ F + 3 ≤ E := by
  obtain ⟨h1, h2⟩ := h
  have d : ∀ i, i < 3 → ∃ r, lnB i = r + 3 ∧ 97 ≤ chB i 0 ∧ chB i 0 ≤ 122 := by
    intro i hi
    have : i = 0 ∨ i = 1 ∨ i = 2 := by omega
    rcases this with rfl | rfl | rfl
    · exact ⟨0, rfl, by decide, by decide⟩
    · exact ⟨0, rfl, by decide, by decide⟩
    · exact ⟨1, rfl, by decide, by decide⟩
  obtain ⟨r, e, c1, c2⟩ := d i hi
  rw [e, restK] at h2
  by_cases q : b (F + 0) = chB i 0
  · rw [Nat.add_zero] at q
    exact ⟨⟨by omega, by omega⟩, by omega⟩
  · rw [if_neg q] at h2; cases h2
theorem keyHere_ev (hfu : 97 < fu) (hT : TpC b n m) (h5 : m 285 = nI F) (h6 : m 286 = nI E) (hse : F ≤ E) (he : E ≤ n) : f_X1_keyHere fu m = some (if KH b F E 0 then 0 else if KH b F E 1 then 1 else if KH b F E 2 then 2 else -1, m) := by
  unfold f_X1_keyHere
  rw [here_ev hfu (show 0 < 3 by decide) hT h5 h6 hse he, doI_some]
  by_cases q0 : KH b F E 0
  · rw [bz_t q0, if_neg (by decide), if_pos q0]
  · rw [bz_f q0, if_pos rfl, if_neg q0, here_ev hfu (show 1 < 3 by decide) hT h5 h6 hse he, doI_some]
    by_cases q1 : KH b F E 1
    · rw [bz_t q1, if_neg (by decide), if_pos q1]
    · rw [bz_f q1, if_pos rfl, if_neg q1, here_ev hfu (show 2 < 3 by decide) hT h5 h6 hse he, doI_some]
      by_cases q2 : KH b F E 2
      · rw [bz_t q2, if_neg (by decide), if_pos q2]
      · rw [bz_f q2, if_pos rfl, if_neg q2]
theorem k12_one (hfu : 97 < fu) (hi : i < 3) (hT : TpM b n m) (hK : KcM m) (h4 : m 3004 = nI F) (h3 : m 3003 = nI E) (hse : F ≤ E) (he : E ≤ n) : f_X9_takesKey_12 fu (g + 1) (nI i) m = if KH b F E i then doV (f_X9_go fu (upd m 3008 (nI i))) (fun m_6 => some (1, m_6)) else f_X9_takesKey_12 fu g (nI (i + 1)) m := by
  have hn := hT.1
  have hl := lnB_le i hi
  have hoff : ∀ i, i < 3 → nI (offK (i + 1)) - nI (offK i) = nI (lnB i) ∧ 1 ≤ lnB i := by
    intro i hi
    have : i = 0 ∨ i = 1 ∨ i = 2 := by omega
    rcases this with rfl | rfl | rfl <;> exact ⟨by decide, by decide⟩
  obtain ⟨o1, o2⟩ := hoff i hi
  rw [f_X9_takesKey_12, if_neg (by rw [show (3 : Int32) = nI 3 from rfl]; exact nI_ge (by omega) (by decide)), nI_1, inb_nI (show i + 1 < 4 by omega) (by decide), chk_t, inb_nI (show i < 4 by omega) (by decide), chk_t, nI_clamp (by omega), nI_clamp (by omega), hK.1 (i + 1) (by omega), hK.1 i (by omega), o1, seqM_eq, h3, h4, pk_sub hse]
  unfold f_X9_takesKey_51
  have ee : (nI (lnB i) = nI (E - F)) = (lnB i = E - F) := nI_eqP (by omega) (by omega)
  obtain ⟨fu', rfl⟩ : ∃ fu', fu = fu' + 1 := ⟨fu - 1, by omega⟩
  by_cases q : E - F = lnB i
  · rw [if_pos (by rw [ee]; exact q.symm)]
    have := k55_L (fu := fu' + 1) (k12 := f_X9_takesKey_12 (fu' + 1) g) hi hT hK h4 (s := F) (by omega) (fu' + 1) 0 (Nat.zero_le _) (by omega)
    rw [show (0 : Int32) = nI 0 from rfl, this, Nat.sub_zero]
    unfold f_X9_takesKey_106
    by_cases c : restK b F i 0 (lnB i) = true
    · rw [bz_t c, if_neg (by decide), if_pos ⟨q, c⟩, seqM_eq]
    · rw [bz_f c, if_pos rfl, if_neg (fun z => c z.2), seqM_eq, nI_1]
  · rw [if_neg (by rw [ee]; exact fun z => q z.symm), if_neg (fun z => q z.1), f_X9_takesKey_55, if_neg (by rw [show (0 : Int32) = nI 0 from rfl]; exact nI_ge (by omega) (by omega)), if_pos rfl]
    unfold f_X9_takesKey_106
    rw [if_pos rfl, seqM_eq, nI_1]
theorem key_ev (hfu : 97 < fu) (hT : TpM b n m) (hK : KcM m) (h5 : m 3005 = 1) (h4 : m 3004 = nI F) (h3 : m 3003 = nI E) (hse : F ≤ E) (he : E ≤ n) : f_X9_takesKey fu m = if KH b F E 0 then doV (f_X9_go fu (upd m 3008 (nI 0))) (fun m_6 => some (1, m_6)) else if KH b F E 1 then doV (f_X9_go fu (upd m 3008 (nI 1))) (fun m_6 => some (1, m_6)) else if KH b F E 2 then doV (f_X9_go fu (upd m 3008 (nI 2))) (fun m_6 => some (1, m_6)) else some (0, m) := by
  unfold f_X9_takesKey
  obtain ⟨g, hg⟩ : ∃ g, fu = g + 1 + 1 + 1 + 1 := ⟨fu - 4, by omega⟩
  have e : f_X9_takesKey_12 fu fu 0 m = f_X9_takesKey_12 fu (g + 1 + 1 + 1 + 1) (nI 0) m := by rw [← hg]; rfl
  rw [if_pos h5, e, k12_one hfu (by decide) hT hK h4 h3 hse he, k12_one hfu (by decide) hT hK h4 h3 hse he, k12_one hfu (by decide) hT hK h4 h3 hse he, f_X9_takesKey_12, if_pos (show (3 : Int32) ≤ nI (0 + 1 + 1 + 1) by decide)]
/-- the reader of the class and the text of the reference -/
theorem read_ev (hfu : 98 < fu) (hC : TpC b n mc) (hM : TpM b n mm) (hK : KcM mm) : ∃ (r q : Int32) (key : Nat) (mc' mm' : Mem), key < 3 ∧ f_X1_fault fu mc = some (r, mc') ∧ f_X9_text fu mm = f_X9_text_33 fu q mm' ∧ Fr FC mc mc' ∧ Fr FM mm mm' ∧ Out key r q mc' mm' := by
  have hn := hC.1
  obtain ⟨f, hf⟩ : ∃ f, fu = f + 1 := ⟨fu - 1, by omega⟩
  -- the class begins
  obtain ⟨m1, s1, s2, s3, s4, s5, s6, s7, s8, s9, s10, s11⟩ : ∃ m1, f_X1_start fu mc = some m1 ∧ m1 (tf 14 0) = -1 ∧ m1 (tf 14 1) = 0 ∧ m1 (tf 14 2) = 0 ∧ m1 281 = 0 ∧ m1 282 = 0 ∧ m1 283 = 0 ∧ m1 284 = 1 ∧ m1 286 = nI 0 ∧ m1 287 = 0 ∧ Fr FC mc m1 := by
    unfold f_X1_start f_X5_clear
    simp only [seqM_eq, doV_some]
    refine ⟨_, rfl, ?_, ?_, ?_, ?_, ?_, ?_, ?_, ?_, ?_, fun q hq => ?_⟩
    · rw [pk_un (by decide), pk_un (by decide), pk_un (by decide), pk_un (by decide), pk_un (by decide), pk_un (by decide), pk_un (by decide), pk_un (by decide), pk_un (by decide), pk_us]
    · rw [pk_un (by decide), pk_un (by decide), pk_un (by decide), pk_un (by decide), pk_un (by decide), pk_un (by decide), pk_un (by decide), pk_un (by decide), pk_us]
    · rw [pk_un (by decide), pk_un (by decide), pk_un (by decide), pk_un (by decide), pk_un (by decide), pk_un (by decide), pk_un (by decide), pk_us]
    · rw [pk_un (by decide), pk_un (by decide), pk_un (by decide), pk_un (by decide), pk_un (by decide), pk_un (by decide), pk_us]
    · rw [pk_un (by decide), pk_un (by decide), pk_un (by decide), pk_un (by decide), pk_un (by decide), pk_us]
    · rw [pk_un (by decide), pk_un (by decide), pk_un (by decide), pk_un (by decide), pk_us]
    · rw [pk_un (by decide), pk_un (by decide), pk_un (by decide), pk_us]
    · rw [pk_un (by decide), pk_us]; rfl
    · rw [pk_us]
    · have p1 := hq (281, 289) (by decide)
      have p2 := hq (372, 375) (by decide)
      simp only at p1 p2
      rw [pk_un (by omega), pk_un (by omega), pk_un (by omega), pk_un (by omega), pk_un (by omega), pk_un (by omega), pk_un (by omega), pk_un (by unfold tf; omega), pk_un (by unfold tf; omega), pk_un (by unfold tf; omega)]
  have T1 := hC.fr s11
  obtain ⟨m2, u1, u2, u3, u4, u5, u6⟩ := step_ev (fu := fu) (b := b) (n := n) (t := 0) (by omega) (by omega) (by omega) (Or.inl rfl) T1 s9 s10
  have T2 := T1.fr (u6.inc (by decide))
  have fr2 : Fr FC mc m2 := fr_tr s11 (u6.inc (by decide))
  obtain ⟨f1, f2⟩ := tF_ok (b := b) (n := n) (p := 0) (by omega)
  have eC : f_X1_fault fu mc = if tF b n 0 < n then doI (f_X1_goesOn fu m2) (fun r_5 m_4 => if r_5 = 0 then (some ((m_4 285), m_4)) else f_X1_fault_6 fu f (nI (0 + 1)) m_4) else some (nI n, m2) := by
    unfold f_X1_fault
    rw [s1, doV_some]
    have : f_X1_fault_6 fu fu 0 m1 = f_X1_fault_6 fu (f + 1) (nI 0) m1 := by rw [← hf]; rfl
    rw [this, f_X1_fault_6, if_neg (by decide), u1, doV_some, u2, T2.2.1, u5]
    have ei : (nI (tF b n 0) < nI n) = (tF b n 0 < n) := nI_ltP (by omega) (by omega)
    by_cases q : tF b n 0 < n
    · rw [if_pos (by rw [ei]; exact q), if_pos q, bz_f (fun z => z.2.1 rfl), if_pos rfl]
      rfl
    · rw [if_neg (by rw [ei]; exact q), if_neg q]
      unfold f_X1_fault_55
      rw [u6.rg 372 373 (by decide) (by decide) (by decide), s2, if_pos (by decide), T2.2.1]
  -- the reference begins
  obtain ⟨n1, hn1⟩ : ∃ n1, n1 = upd (upd mm 3003 0) 3007 (-1) := ⟨_, rfl⟩
  have fn1 : Fr FM mm n1 := by
    rw [hn1]
    exact fr_tr (Fr.up.inc (by decide)) (Fr.up.inc (by decide))
  obtain ⟨n2, v1, ⟨k0, k1, kL, kF, kS⟩, v3⟩ := go_tok (fu := fu) (b := b) (n := n) (t := 0) (e := -1) (m := n1) (by omega) (by omega) (hM.fr fn1) (by rw [hn1, pk_un (by decide), pk_us]; rfl) (by rw [hn1, pk_us])
  have fn2 : Fr FM mm n2 := fr_tr fn1 (v3.inc (by decide))
  have Tn2 := hM.fr fn2
  have K2 : KcM n2 := by
    refine ⟨fun i hi => ?_, fun i hi j hj => ?_⟩
    · rw [fn2.rg 3320 3324 (by decide) (by omega) (by omega)]; exact hK.1 i hi
    · have ho : offK i + lnB i ≤ 10 := by
        have d : ∀ i, i < 3 → offK i + lnB i ≤ 10 := by decide
        exact d i hi
      rw [fn2.rg 3300 3310 (by decide) (by omega) (by omega)]; exact hK.2 i hi j hj
  have eM : f_X9_text fu mm = doI (f_X9_takesKey fu n2) (fun r_9 m_8 => if r_9 = 0 then (f_X9_text_32 fu m_8) else (doI (f_X9_takesE fu m_8) (fun r_12 m_11 => if r_12 = 0 then (f_X9_text_32 fu m_11) else (f_X9_text_33 fu 1 m_11)))) := by
    unfold f_X9_text
    rw [seqM_eq, seqM_eq, ← hn1, v1, doV_some]
  have bad : f_X9_takesKey fu n2 = some (0, n2) → (∃ L, f_X1_fault fu mc = some (nI (tF b n 0), L) ∧ Fr FC mc L) → ∃ (r q : Int32) (key : Nat) (mc' mm' : Mem), key < 3 ∧ f_X1_fault fu mc = some (r, mc') ∧ f_X9_text fu mm = f_X9_text_33 fu q mm' ∧ Fr FC mc mc' ∧ Fr FM mm mm' ∧ Out key r q mc' mm' := by
    rintro hk ⟨L, hL, fL⟩
    refine ⟨nI (tF b n 0), 0, 0, L, n2, by decide, hL, ?_, fL, fn2, Or.inl ⟨rfl, tF b n 0, by omega, rfl, k0⟩⟩
    rw [eM, hk, doI_some, if_pos rfl]
    rfl
  have nokey : ¬ n2 3005 = 1 → f_X9_takesKey fu n2 = some (0, n2) := by
    intro q
    unfold f_X9_takesKey
    rw [if_neg q]
  by_cases hF : tF b n 0 < n
  · rw [if_pos hF] at eC
    have hx := (hM.2.2 _ hF).2
    have goes : ∀ E, m2 286 = nI E → tF b n 0 ≤ E → E ≤ n → f_X1_goesOn fu m2 = (fun r : Int32 => if r < 0 then some (0, upd m2 (tf 14 0) r) else some (1, upd m2 (tf 14 0) r)) (if KH b (tF b n 0) E 0 then 0 else if KH b (tF b n 0) E 1 then 1 else if KH b (tF b n 0) E 2 then 2 else -1) := by
      intro E hE h1 h2
      unfold f_X1_goesOn
      rw [u6.rg 372 373 (by decide) (by decide) (by decide), s2, if_neg (by decide), keyHere_ev (by omega) T2 u2 hE h1 h2, doI_some, seqM_eq, pk_us]
    have cbad : ∀ E, m2 286 = nI E → tF b n 0 ≤ E → E ≤ n → ¬ KH b (tF b n 0) E 0 → ¬ KH b (tF b n 0) E 1 → ¬ KH b (tF b n 0) E 2 → ∃ L, f_X1_fault fu mc = some (nI (tF b n 0), L) ∧ Fr FC mc L := by
      intro E hE h1 h2 q0 q1 q2
      refine ⟨upd m2 (tf 14 0) (-1), ?_, fr_tr fr2 (Fr.up.inc (by decide))⟩
      rw [eC, goes E hE h1 h2, if_neg q0, if_neg q1, if_neg q2]
      show doI (if (-1 : Int32) < 0 then _ else _) _ = _
      rw [if_pos (by decide), doI_some, if_pos rfl, pk_un (by decide), u2]
    by_cases hL : isLe b (tF b n 0)
    · obtain ⟨t1, t2, t3⟩ := tok_le hF hL
      obtain ⟨l5, l6, l3, l7⟩ := kL hF hL
      rw [← t1] at l3 l7
      have tE2 := (tE_ok (b := b) (n := n) (p := 0) (by omega)).2
      rw [t3] at u3
      rw [bz_t t2] at u4
      have nm1 : ¬ nI (tF b n 0) = -1 := fun z => nI_pos (show tF b n 0 < 2 ^ 31 by omega) (by rw [z]; decide)
      rw [if_neg nm1] at l5
      generalize tF b n 0 = F at *
      generalize tE b n 0 = E at *
      have kev := key_ev (fu := fu) (by omega) Tn2 K2 l5 k0 l3 (by omega) tE2
      have good : ∀ key, key < 3 → KH b F E key → f_X9_takesKey fu n2 = doV (f_X9_go fu (upd n2 3008 (nI key))) (fun m_6 => some (1, m_6)) → f_X1_goesOn fu m2 = some (1, upd m2 (tf 14 0) (nI key)) → ∃ (r q : Int32) (key : Nat) (mc' mm' : Mem), key < 3 ∧ f_X1_fault fu mc = some (r, mc') ∧ f_X9_text fu mm = f_X9_text_33 fu q mm' ∧ Fr FC mc mc' ∧ Fr FM mm mm' ∧ Out key r q mc' mm' := by
        intro key hkey hKH hk1 hc1
        have h3E := (KH_le hkey hKH).2
        obtain ⟨n3, hn3⟩ : ∃ n3, n3 = upd n2 3008 (nI key) := ⟨_, rfl⟩
        have fn3 : Fr FM mm n3 := by rw [hn3]; exact fr_tr fn2 (Fr.up.inc (by decide))
        obtain ⟨n4, w1, w2, w3⟩ := go_tok (fu := fu) (b := b) (n := n) (t := E) (e := nI E) (m := n3) (by omega) tE2 (hM.fr fn3) (by rw [hn3, pk_un (by decide)]; exact l3) (by rw [hn3, pk_un (by decide)]; exact l7)
        obtain ⟨n5, hn5⟩ : ∃ n5, n5 = upd (upd (upd (upd n4 3009 0) 3010 0) 3011 0) 3600 0 := ⟨_, rfl⟩
        have fn4 : Fr [(3009, 3012), (3600, 3601)] n4 n5 := by
          rw [hn5]
          exact fr_tr (fr_tr (fr_tr (Fr.up.inc (by decide)) (Fr.up.inc (by decide))) (Fr.up.inc (by decide))) (Fr.up.inc (by decide))
        have fn5 : Fr FM mm n5 := fr_tr (fr_tr fn3 (w3.inc (by decide))) (fn4.inc (by decide))
        have tok5 : Tok b n E (nI E) n5 := by
          have e3 : n5 3003 = n4 3003 := fn4.rg 3003 3004 (by decide) (by decide) (by decide)
          have e4 : n5 3004 = n4 3004 := fn4.rg 3004 3005 (by decide) (by decide) (by decide)
          have e5 : n5 3005 = n4 3005 := fn4.rg 3005 3006 (by decide) (by decide) (by decide)
          have e6 : n5 3006 = n4 3006 := fn4.rg 3006 3007 (by decide) (by decide) (by decide)
          have e7 : n5 3007 = n4 3007 := fn4.rg 3007 3008 (by decide) (by decide) (by decide)
          unfold Tok at w2 ⊢
          rw [e3, e4, e5, e6, e7]
          exact w2
        have n8 : n5 3008 = nI key := by rw [fn4.rg 3008 3009 (by decide) (by decide) (by decide), w3.rg 3008 3009 (by decide) (by decide) (by decide), hn3, pk_us]
        obtain ⟨m3, hm3⟩ : ∃ m3, m3 = upd m2 (tf 14 0) (nI key) := ⟨_, rfl⟩
        have fm3 : Fr FC mc m3 := by rw [hm3]; exact fr_tr fr2 (Fr.up.inc (by decide))
        have fm23 : Fr [(372, 373)] m2 m3 := by rw [hm3]; exact Fr.up.inc (by decide)
        have hST : ST b n key E 1 (nI E) 1 0 0 (fun _ => 0) 0 (fun _ => 0) 0 m3 n5 := by
          refine ⟨⟨tE2, by omega, ⟨fun i hi => by omega, fun i hi => by omega⟩, rfl, by decide, by decide, Nat.le_refl _, fun i hi => by omega, hkey, rfl⟩, Or.inl ⟨rfl, rfl⟩, ⟨hC.fr fm3, ?_, ?_, ?_, ?_, ?_, ?_, ?_, ?_, fun i hi => by omega, fun i hi => by omega, ?_⟩, ⟨hM.fr fn5, tok5, n8, ?_, ⟨?_, ?_, fun i hi => ?_, fun i hi => ?_⟩, fun d hd => ?_⟩⟩
          · rw [fm23.rg 286 287 (by decide) (by decide) (by decide)]; exact u3
          · rw [fm23.rg 287 288 (by decide) (by decide) (by decide)]; exact u4
          · rw [fm23.rg 284 285 (by decide) (by decide) (by decide), u6.rg 284 285 (by decide) (by decide) (by decide)]; exact s8
          · rw [hm3, pk_us]
          · rw [fm23.rg 282 283 (by decide) (by decide) (by decide), u6.rg 282 283 (by decide) (by decide) (by decide)]; exact s6
          · rw [fm23.rg 373 374 (by decide) (by decide) (by decide), u6.rg 373 374 (by decide) (by decide) (by decide)]; exact s3
          · rw [fm23.rg 281 282 (by decide) (by decide) (by decide), u6.rg 281 282 (by decide) (by decide) (by decide)]; exact s5
          · rw [fm23.rg 374 375 (by decide) (by decide) (by decide), u6.rg 374 375 (by decide) (by decide) (by decide)]; exact s4
          · rw [fm23.rg 283 284 (by decide) (by decide) (by decide), u6.rg 283 284 (by decide) (by decide) (by decide)]; exact s7
          · rw [hn5, pk_un (by decide), pk_un (by decide), pk_us]; rfl
          · rw [hn5, pk_un (by decide), pk_us, hR_1]; rfl
          · rw [hn5, pk_un (by decide), pk_un (by decide), pk_un (by decide), pk_us, hR_1]; rfl
          · rw [hR_1] at hi; omega
          · rw [hR_1] at hi; omega
          · rw [show d = 0 by omega, hn5, pk_us]; rfl
        obtain ⟨r, q, mc', mm', r1, r2, r3, r4, r5⟩ := reads (fu := fu) (b := b) (n := n) (key := key) (by omega) f fu 1 E 1 (nI E) 1 0 0 (fun _ => 0) 0 (fun _ => 0) 0 m3 n5 (by omega) (by omega) (by omega) (Or.inr rfl) hST
        refine ⟨r, q, key, mc', mm', hkey, ?_, ?_, fr_tr fm3 r3, fr_tr fn5 r4, r5⟩
        · rw [eC, hc1, doI_some, if_neg (by decide), ← hm3]
          exact r1
        · rw [eM, hk1, ← hn3, w1, doV_some, doI_some, if_neg (by decide)]
          have hE : f_X9_takesE fu n4 = some (q, mm') := by
            unfold f_X9_takesE
            simp only [seqM_eq]
            rw [show (3600 + (0 : Int32).toNatClampNeg) = 3600 from rfl, show vp_nar .boolean 0 = 0 from rfl, ← hn5]
            exact r2
          rw [hE, doI_some]
          unfold f_X9_text_32
          rcases r5 with ⟨z, _⟩ | ⟨z, _⟩
          · rw [z, if_pos rfl]
          · rw [z, if_neg (by decide)]
      have gE := goes E u3 (by omega) tE2
      by_cases q0 : KH b F E 0
      · rw [if_pos q0] at kev gE
        exact good 0 (by decide) q0 kev gE
      · by_cases q1 : KH b F E 1
        · rw [if_neg q0, if_pos q1] at kev gE
          exact good 1 (by decide) q1 kev gE
        · by_cases q2 : KH b F E 2
          · rw [if_neg q0, if_neg q1, if_pos q2] at kev gE
            exact good 2 (by decide) q2 kev gE
          · rw [if_neg q0, if_neg q1, if_neg q2] at kev
            exact bad kev (cbad E u3 (by omega) tE2 q0 q1 q2)
    · have nK : ∀ E i, i < 3 → ¬ KH b (tF b n 0) E i := fun E i hi q => hL (KH_le hi q).1
      have tTn : tF b n 0 ≤ tT b n 0 ∧ tT b n 0 ≤ n := by
        have := tE_ok (b := b) (n := n) (p := 0) (by omega)
        unfold tT
        split <;> omega
      refine bad (nokey ?_) (cbad _ u3 tTn.1 tTn.2 (nK _ 0 (by decide)) (nK _ 1 (by decide)) (nK _ 2 (by decide)))
      by_cases hD : isFi b (tF b n 0)
      · rw [(kF hF hD).1]
        split <;> decide
      · rw [(kS hF hL hD).1]; decide
  · rw [if_neg hF] at eC
    have hFn : tF b n 0 = n := by omega
    refine bad (nokey (by rw [(k1 hFn).1]; decide)) ⟨m2, by rw [eC, hFn], fr2⟩
end READ
