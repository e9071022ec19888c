/-! PURE: thoughts: behind, next, hole, patience, device, filler, becomes, apart -/
def CM (X : TxS) (N : Nat) (σ : Row) (M : Mem) : Prop := N ≤ 14 ∧ TxV X N ∧ (∀ q, q < 54 → M q = σ q) ∧ TxC X N M
def MM (X : TxS) (N : Nat) (τ : Row) (M : Mem) : Prop := N ≤ 14 ∧ TxV X N ∧ (∀ q, q < 51 → M (3100 + q) = τ q) ∧ TxM 4000 X N M
theorem Fr.inc {L1 L2 : List (Nat × Nat)} {a b : Mem} (h : Fr L1 a b) (hs : (L1.all fun p => L2.any fun q => Nat.ble q.1 p.1 && Nat.ble p.2 q.2) = true) : Fr L2 a b := fun k hk => h k (fun p hp => by
  have h1 := List.all_eq_true.mp hs p hp
  obtain ⟨q, hq, h2⟩ := List.any_eq_true.mp h1
  simp only [Bool.and_eq_true, Nat.ble_eq] at h2
  have := hk q hq
  omega)
theorem fr_lay2 {L : List (Nat × Nat)} {a b : Mem} {c n : Nat} {σ : Row} (h : Fr L a b) : Fr L (lay c n σ a) (lay c n σ b) := fun k hk => by
  unfold lay
  split
  · rfl
  · exact h k hk
theorem fr_tr {L : List (Nat × Nat)} {a b c : Mem} (h1 : Fr L a b) (h2 : Fr L b c) : Fr L a c := fun k hk => (h2 k hk).trans (h1 k hk)
section THINK
variable {fu n N v k B : Nat} {σ τ ρ : Row} {m M M' : Mem} {X : TxS} {x x1 x2 x3 : Int32}
theorem fr_lay1 : Fr scr m (lay (70 * 1) 54 ρ m) := Fr.lay.sub (by decide)
theorem fr_sc (h : SC m M) : Fr scr m M := (Fr.sc h).sub (by decide)
theorem fr_sm (h : SM m M) : Fr scr m M := (Fr.sm h).sub (by decide)
theorem CM.fr (h : CM X N σ M) (hf : Fr scr M M') : CM X N σ M' := by
  obtain ⟨a, b, c, d⟩ := h
  refine ⟨a, b, fun q hq => ?_, fun t ht => ?_⟩
  · rw [hf.on (S := [(0, 54)]) (by decide) q (onS_of 0 rfl (by omega) (by omega))]
    exact c q hq
  · have ho := hf.on (S := [(330, 372), (1100, 2444)]) (by decide)
    obtain ⟨h1, h2, h3, h4⟩ := d t ht
    have hz := (b t ht).2.2.1
    exact ⟨by rw [ho _ (onS_of 0 rfl (by unfold tf; omega) (by unfold tf; omega))]; exact h1, by rw [ho _ (onS_of 0 rfl (by unfold tf; omega) (by unfold tf; omega))]; exact h2, by rw [ho _ (onS_of 0 rfl (by unfold tf; omega) (by unfold tf; omega))]; exact h3, fun i hi => by rw [ho _ (onS_of 1 rfl (by omega) (by omega))]; exact h4 i hi⟩
theorem TxM.fr {L : List (Nat × Nat)} (hN : N ≤ 14) (hv : TxV X N) (hm : TxM 4000 X N M) (hf : Fr L M M') (hd : disj L [(4051, 5423)] = true) : TxM 4000 X N M' := fun t ht => by
  have h := hf.on hd
  obtain ⟨a, b, c⟩ := hm t ht
  have hz := (hv t ht).2.2.1
  exact ⟨by rw [h _ (onS_of 0 rfl (by omega) (by omega))]; exact a, by rw [h _ (onS_of 0 rfl (by omega) (by omega))]; exact b, fun i hi => by rw [h _ (onS_of 0 rfl (by omega) (by omega))]; exact c i hi⟩
theorem MM.fr {L : List (Nat × Nat)} (h : MM X N τ M) (hf : Fr L M M') (hd : disj L [(4051, 5423)] = true) (hd2 : disj L [(3100, 3151)] = true) : MM X N τ M' := by
  obtain ⟨a, b, c, d⟩ := h
  exact ⟨a, b, fun q hq => by rw [hf.on hd2 _ (onS_of 0 rfl (by omega) (by omega))]; exact c q hq, d.fr a b hf hd⟩
theorem MM.sm (h : MM X N τ M) (hs : SM M M') : MM X N τ M' := h.fr (Fr.sm hs) (by decide) (by decide)
theorem op_think {fX fM : Mem → Option (Int32 × Mem)} (hI : Inv m) (h : ∀ (n N : Nat) (σ : Row) (X : TxS), CNT X N σ → N ≤ 14 → TxV X N → ROK 9999 n σ → WOK n σ → ∃ r, (∀ M, CM X N σ M → ∃ M', Fr scr M M' ∧ fX M = some (r, M')) ∧ (∀ τ, Lv n σ τ → ∀ M, TxM 4000 X N M → ∃ M', Fr scr M M' ∧ fM (lay 4000 51 τ M) = some (r, lay 4000 51 τ M'))) : Op fX fM m := by
  have hI0 := hI
  obtain ⟨n, N, σ, τ, X, h1, h2, h3, h4, h5, h6, h7, h8, h9⟩ := hI
  obtain ⟨r, a, b⟩ := h n N σ X h2 h3.1 h3.2.1 h1.2.2.2.1 h1.2.2.2.2
  obtain ⟨m1, f1, e1⟩ := a m ⟨h3.1, h3.2.1, h1.1, h3.2.2.1⟩
  have h1' : RW n σ τ m1 := h1.on (f1.on (by decide))
  have h3' : TXI X N m1 := h3.on (f1.on (by decide))
  obtain ⟨m2, f2, e2⟩ := b τ h1.2.2.1 m1 h3'.2.2.2
  have hl := h1'.layM
  rw [← hl] at e2
  refine ⟨r, m1, _, e1, e2, inv_scr (inv_scr hI0 f1) ?_⟩
  have := fr_lay2 (c := 4000) (n := 51) (σ := τ) f2
  rw [← hl] at this
  exact this
theorem think_same {fX fM : Mem → Option (Int32 × Mem)} (r : Int32) (h1 : ∀ M, CM X N σ M → fX M = some (r, M)) (h2 : ∀ τ, Lv n σ τ → ∀ M, fM (lay 4000 51 τ M) = some (r, lay 4000 51 τ M)) : ∃ r, (∀ M, CM X N σ M → ∃ M', Fr scr M M' ∧ fX M = some (r, M')) ∧ (∀ τ, Lv n σ τ → ∀ M, TxM 4000 X N M → ∃ M', Fr scr M M' ∧ fM (lay 4000 51 τ M) = some (r, lay 4000 51 τ M')) := ⟨r, fun M hM => ⟨M, fr_nil, h1 M hM⟩, fun τ hτ M _ => ⟨M, fr_nil, h2 τ hτ M⟩⟩
theorem cthink (hfu : 5 < fu) (hc : CM X N σ M) (hk : ROK 9999 n σ) : ∃ σ1, Lv n σ σ1 ∧ (∀ key, key < 3 → σ1 (51 + key) = σ (51 + key)) ∧ f_X4_become fu 1 0 M = some (lay (70 * 1) 54 σ1 M) := by
  refine become_row (by decide) hk.2.1 hfu (fun q hq => ?_) hk.1
  rw [show 70 * 0 + q = q by omega]
  exact hc.2.2.1 q hq
theorem crun1 (hf : 200 < fu) (hc : CM X N σ M) (hk : k ≤ 200) (hB : B ≤ 20000) (hr : ROK B n ρ) (h51 : ρ 51 = optI (lastO X.1 0 N)) : ∃ M2, SC M M2 ∧ f_X4_run fu 1 (nI k) (lay (70 * 1) 54 ρ M) = some (lay (70 * 1) 54 (tenthsS (offT X N) n k ρ) M2) :=
  crun_ev (by omega) (by omega) (by omega) (by omega) hr (offC_ev (by decide) hc.1 (by omega) hc.2.1 hc.2.2.2) h51
theorem mrun1 (hf : 200 < fu) (hm : MM X N τ M) (hk : k ≤ 200) (hB : B ≤ 20000) (hr : ROK B n ρ) (h15 : ρ 15 = nI N) : ∃ M2, SM M M2 ∧ f_X9_goesOn fu (nI k) (lay 4000 51 ρ M) = some (lay 4000 51 (tenthsS (offT X N) n k ρ) M2) :=
  mrun_ev (by omega) (by omega) (by omega) (by omega) hr (offM_ev hm.1 (by omega) hm.2.1 hm.2.2.2) h15
theorem mthink (hf : 51 < fu) (hN : N ≤ 14) (hv : TxV X N) (hm : TxM 4000 X N M) : ∃ M2, Fr scr M M2 ∧ MM X N τ M2 ∧ f_X9_thinks fu (lay 4000 51 τ M) = some (lay 4000 51 τ M2) := by
  have fr : Fr [(3100, 3151)] M (lay 3100 51 τ M) := Fr.lay (b := 3100) (n := 51)
  exact ⟨lay 3100 51 τ M, fr.inc (by decide), ⟨hN, hv, fun q hq => lay_in hq, hm.fr hN hv fr (by decide)⟩, thinks_ev hf⟩
theorem MM.back (hf : 51 < fu) (hm : MM X N τ M) : f_X9_putsBack fu (lay 4000 51 ρ M) = some (lay 4000 51 τ M) := putsBack_ev hf hm.2.2.1
theorem nI_eqP {a b : Nat} (ha : a < 2 ^ 31) (hb : b < 2 ^ 31) : (nI a = nI b) = (a = b) := propext ⟨fun h => by
  have := congrArg Int32.toInt h
  rw [nI_toInt ha, nI_toInt hb] at this
  omega, fun h => by rw [h]⟩
theorem nI_2p : (2 : Int32) + nI n = nI (n + 2) := by rw [show (2 : Int32) = nI 2 from rfl, nI_add, Nat.add_comm]
theorem CM.e1 (hc : CM X N σ M) (hk : ROK 9999 n σ) : M (sf 0 1) = nI n := by
  have := hc.2.2.1 1 (by decide)
  rw [hk.1] at this
  exact this
theorem inR_of {a b : Nat} (hb : b < 2 ^ 31) (h1 : a ≤ k) (h2 : k ≤ b) : inR (nI k) (nI a) (nI b) := by
  refine ⟨fun z => ?_, fun z => ?_⟩
  · have := Int32.lt_iff_toInt_lt.mp z
    rw [nI_toInt (by omega), nI_toInt (by omega)] at this
    omega
  · have := Int32.lt_iff_toInt_lt.mp z
    rw [nI_toInt (by omega), nI_toInt (by omega)] at this
    omega
def behindR (T : Row) (j : Nat) : Int32 := if j = 0 then T 5 else if j = 1 then T 7 else if j = 2 then T 11 else T (ps (j - 3) 6)
theorem op_behind (hf : 200 < fu) (hI : Inv m) : Op (f_X8_behind fu x1 x2) (f_X9_behind fu x1 x2) m := by
  refine op_think hI (fun n N σ X hc hN hv hk hw => ?_)
  have hn := hk.2.1
  by_cases hA : inR x1 0 100
  · obtain ⟨k, -, k5, rfl⟩ := inR_nI (a := 0) (b := 100) (by decide) (by decide) hA
    by_cases hB : inR x2 0 (nI (n + 2))
    · obtain ⟨j, -, hj, rfl⟩ := inR_nI (a := 0) (b := n + 2) (by omega) (by decide) hB
      have c0 : (nI j = 0) = (j = 0) := nI_eqP (b := 0) (by omega) (by decide)
      have c1 : (nI j = 1) = (j = 1) := nI_eqP (b := 1) (by omega) (by decide)
      have c2 : (nI j = 2) = (j = 2) := nI_eqP (b := 2) (by omega) (by decide)
      refine ⟨behindR (tenthsS (offT X N) n k σ) j, fun M hM => ?_, fun τ hτ M hM => ?_⟩
      · obtain ⟨σ1, l1, l2, e1⟩ := cthink (fu := fu) (by omega) hM hk
        obtain ⟨M2, s1, e2⟩ := crun1 hf hM (show k ≤ 200 by omega) (by decide) (l1.rok hk) ((l2 0 (by decide)).trans (hc.2 0 (by decide)))
        have L := l1.tenths (off := offT X N) k
        refine ⟨_, fr_tr (fr_sc s1) (fr_lay1 (ρ := tenthsS (offT X N) n k σ1)), ?_⟩
        unfold f_X8_behind behindR
        simp only [within_ev, bz_t hA, doI_some, doV_some, seqM_eq, chk_t, show ¬ (1 : Int32) = 0 by decide, if_false, hM.e1 hk, nI_2p, bz_t hB, e1, e2, c0, c1, c2]
        by_cases j0 : j = 0
        · simp only [j0, if_true, lc_get (show 5 < 54 by decide), L.l (show 5 < 16 by decide)]
        by_cases j1 : j = 1
        · simp only [j1, if_true, lc_get (show 7 < 54 by decide), L.l (show 7 < 16 by decide), show ¬ 1 = 0 by decide, if_false]
        by_cases j2 : j = 2
        · simp only [j2, if_true, lc_get (show 11 < 54 by decide), L.l (show 11 < 16 by decide), show ¬ 2 = 0 by decide, show ¬ 2 = 1 by decide, if_false]
        · have e3 : nI j - 3 = nI (j - 3) := pk_sub (b := 3) (by omega)
          simp only [j0, j1, j2, if_false, e3, inb_nI (show j - 3 < 5 by omega) (show 5 < 2 ^ 31 by decide), chk_t, nI_clamp (show j - 3 < 2 ^ 31 by omega), lc_vget (show j - 3 < 5 by omega) (show 6 < 7 by decide), L.f (show j - 3 < n by omega) (show 6 < 7 by decide)]
      · obtain ⟨M1, f1, mm, e1⟩ := mthink (fu := fu) (τ := τ) (by omega) hN hv hM
        obtain ⟨M2, s1, e2⟩ := mrun1 hf mm (show k ≤ 200 by omega) (by decide) (hτ.rok hk) ((hτ.l (by decide)).trans hc.1)
        have L := hτ.tenths (off := offT X N) k
        have hb := fun ρ => (mm.sm s1).back (fu := fu) (ρ := ρ) (by omega)
        refine ⟨_, fr_tr f1 (fr_sm s1), ?_⟩
        have key : f_X9_behind_32 fu (nI k) (nI j) (lay 4000 51 τ M) = some (behindR (tenthsS (offT X N) n k σ) j, lay 4000 51 τ M2) := by
          unfold f_X9_behind_32 f_X9_behind_93 behindR
          simp only [e1, e2, doI_some, doV_some, seqM_eq, chk_t, c0, c1, c2, Nat.reduceMul, Nat.reduceAdd, Int32.reduceToNatClampNeg, lm_5, lm_7, lm_11, L.l (show 5 < 16 by decide), L.l (show 7 < 16 by decide), L.l (show 11 < 16 by decide), hb]
          by_cases j0 : j = 0
          · simp only [j0, if_true]
          by_cases j1 : j = 1
          · simp only [j1, if_true, show ¬ 1 = 0 by decide, if_false]
          by_cases j2 : j = 2
          · simp only [j2, if_true, show ¬ 2 = 0 by decide, show ¬ 2 = 1 by decide, if_false]
          · have e3 : nI j - 3 = nI (j - 3) := pk_sub (b := 3) (by omega)
            simp only [j0, j1, j2, if_false, e3, of_6 (show j - 3 < 5 by omega), doI_some, doV_some, seqM_eq, chk_t, L.f (show j - 3 < n by omega) (show 6 < 7 by decide), hb]
        unfold f_X9_behind
        simp only [in_ev, bz_t hA, doI_some, doV_some, seqM_eq, chk_t, show ¬ (1 : Int32) = 0 by decide, if_false, key]
        rw [if_neg hB.1]
        by_cases h2 : nI j ≤ 2
        · rw [if_pos h2]
        · rw [if_neg h2]
          have hj3 : 3 ≤ j := by
            refine Nat.lt_of_not_le (fun z => h2 ?_)
            exact nI_le (b := 2) z (by decide)
          have e3 : nI j - 3 = nI (j - 3) := pk_sub (b := 3) hj3
          have hvp : isVp n (nI (j - 3)) := ⟨fun z => by
            have := Int32.lt_iff_toInt_lt.mp z
            rw [nI_toInt (by omega)] at this
            have : (0 : Int32).toInt = 0 := rfl
            omega, nI_ge (by omega) (by omega)⟩
          simp only [e3, misV_ev hn ((hτ.l (by decide)).trans hk.1), bz_t hvp, doI_some, doV_some, seqM_eq, chk_t, show ¬ (1 : Int32) = 0 by decide, if_false, key]
    · refine think_same (-1000000001) (fun M hM => ?_) (fun τ hτ M => ?_)
      · unfold f_X8_behind
        simp only [within_ev, bz_t hA, doI_some, doV_some, seqM_eq, chk_t, show ¬ (1 : Int32) = 0 by decide, if_false, hM.e1 hk, nI_2p, bz_f hB, if_true]
      · unfold f_X9_behind
        simp only [in_ev, bz_t hA, doI_some, doV_some, seqM_eq, chk_t, show ¬ (1 : Int32) = 0 by decide, if_false]
        by_cases h0 : x2 < 0
        · rw [if_pos h0]
        · rw [if_neg h0]
          have h2 : ¬ x2 ≤ 2 := fun z => hB ⟨h0, fun y => by
            have a := Int32.le_iff_toInt_le.mp z
            have b := Int32.lt_iff_toInt_lt.mp y
            rw [nI_toInt (by omega)] at b
            have : (2 : Int32).toInt = 2 := rfl
            omega⟩
          rw [if_neg h2]
          have hvp : ¬ isVp n (x2 - 3) := fun z => by
            obtain ⟨v, hvn, ev⟩ := isVp_of hn z
            have e : x2 = nI (v + 3) := by
              rw [← nI_add, ← ev, show nI 3 = (3 : Int32) from rfl, Int32.sub_add_cancel]
            rw [e] at hB
            exact hB (inR_of (a := 0) (by omega) (by omega) (by omega))
          simp only [misV_ev hn ((hτ.l (by decide)).trans hk.1), bz_f hvp, doI_some, doV_some, seqM_eq, chk_t, if_true]
  · refine think_same (-1000000001) (fun M hM => ?_) (fun τ hτ M => ?_)
    · unfold f_X8_behind
      simp only [within_ev, bz_f hA, doI_some, doV_some, seqM_eq, chk_t, if_true]
    · unfold f_X9_behind
      simp only [in_ev, bz_f hA, doI_some, doV_some, seqM_eq, chk_t, if_true]
end THINK
