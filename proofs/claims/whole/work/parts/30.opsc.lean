/-! PURE: deal, tenths, fee, fine, why, textTold, count -/
section OPC
variable {fu n N v : Nat} {σ : Row} {m : Mem} {X : TxS} {x x1 x2 x3 : Int32}
def dealT (σ : Row) : Row := upd (upd (upd σ 0 (drawZ (σ 0))) 0 (drawZ (drawZ (σ 0)))) 0 (drawZ (drawZ (drawZ (σ 0))))
def dealS (σ : Row) (n : Nat) : Row := seatS (dealT σ) n (irem (ushr (drawZ (σ 0)) 8) 6) (1 + irem (ushr (drawZ (drawZ (σ 0))) 8) 20) (1 + irem (ushr (drawZ (drawZ (drawZ (σ 0)))) 8) 40)
theorem dealT_ROK (hk : ROK 9999 n σ) (hw : WOK n σ) : ROK 9999 n (dealT σ) ∧ WOK n (dealT σ) := by
  unfold dealT
  exact ⟨((hk.upd_low (by decide) (by decide) (by decide) (by decide) (by decide) (by decide) (by decide)).upd_low (by decide) (by decide) (by decide) (by decide) (by decide) (by decide) (by decide)).upd_low (by decide) (by decide) (by decide) (by decide) (by decide) (by decide) (by decide), ((hw.low (by decide)).low (by decide)).low (by decide)⟩
theorem dealS_ROK (hk : ROK 9999 n σ) (hw : WOK n σ) (hn : n < 5) : ROK 9999 (n + 1) (dealS σ n) ∧ WOK (n + 1) (dealS σ n) := by
  obtain ⟨a, b⟩ := dealT_ROK hk hw
  obtain ⟨k, hk6, ek⟩ := irem_small (a := drawZ (σ 0)) (k := 6) (by decide) (by decide)
  obtain ⟨w, hw6, ew⟩ := irem_small (a := drawZ (drawZ (σ 0))) (k := 20) (by decide) (by decide)
  obtain ⟨y, hy6, ey⟩ := irem_small (a := drawZ (drawZ (drawZ (σ 0)))) (k := 40) (by decide) (by decide)
  unfold dealS
  rw [show (6 : Int32) = nI 6 from rfl, show (20 : Int32) = nI 20 from rfl, show (40 : Int32) = nI 40 from rfl, ek, ew, ey, sm_add, sm_add]
  exact seatS_ROK a b hn hk6 (by omega) (by omega) (by omega) (by omega)
theorem dealS_hi {q : Nat} (hn : n < 5) (hq : q = 15 ∨ 51 ≤ q) : dealS σ n q = σ q := by
  unfold dealS dealT
  rw [seatS_hi hn hq, pk_un (by omega), pk_un (by omega), pk_un (by omega)]
theorem cdeal1 (h1 : σ 1 = nI n) (hn : n < 5) : f_X4_seatDrawn fu 0 (lay (70 * 0) 54 σ m) = some (lay (70 * 0) 54 (dealS σ n) m) := by
  have d1 := cdraw_ev (fu := fu) (t := 0) (σ := σ) (m := m) (x := 6) (by decide)
  unfold dealS dealT
  generalize drawZ (σ 0) = z1 at d1 ⊢
  have d2 := cdraw_ev (fu := fu) (t := 0) (σ := upd σ 0 z1) (m := m) (x := 20) (by decide)
  rw [pk_us] at d2
  generalize drawZ z1 = z2 at d2 ⊢
  have d3 := cdraw_ev (fu := fu) (t := 0) (σ := upd (upd σ 0 z1) 0 z2) (m := m) (x := 40) (by decide)
  rw [pk_us] at d3
  generalize drawZ z2 = z3 at d3 ⊢
  have h1' : (upd (upd (upd σ 0 z1) 0 z2) 0 z3) 1 = nI n := by rw [pk_un (by decide), pk_un (by decide), pk_un (by decide), h1]
  unfold f_X4_seatDrawn
  rw [d1, doI_some, d2, doI_some, seqM_eq, d3, doI_some, seqM_eq, cseat_ev h1' hn, doI_some]
theorem mdeal1 (h1 : σ 1 = nI n) (hn : n < 5) (hfu : 7 < fu) {k : Int32 → Mem → Option (Int32 × Mem)} : (doI (f_X9_draw fu (lay 4000 51 σ m)) (fun r_3 m_2 => seqM (irem r_3 6) (fun x_4 : Int32 => doI (f_X9_draw fu m_2) (fun r_8 m_7 => seqM (1 + (irem r_8 20)) (fun x_9 : Int32 => doI (f_X9_draw fu m_7) (fun r_13 m_12 => doI (f_X9_comes fu x_4 x_9 (1 + (irem r_13 40)) m_12) (fun r_16 m_15 => k r_16 m_15))))))) = k (nI n) (lay 4000 51 (dealS σ n) m) := by
  have d1 := mdraw_ev (fu := fu) (σ := σ) (m := m)
  unfold dealS dealT
  generalize drawZ (σ 0) = z1 at d1 ⊢
  have d2 := mdraw_ev (fu := fu) (σ := upd σ 0 z1) (m := m)
  rw [pk_us] at d2
  generalize drawZ z1 = z2 at d2 ⊢
  have d3 := mdraw_ev (fu := fu) (σ := upd (upd σ 0 z1) 0 z2) (m := m)
  rw [pk_us] at d3
  generalize drawZ z2 = z3 at d3 ⊢
  have h1' : (upd (upd (upd σ 0 z1) 0 z2) 0 z3) 1 = nI n := by rw [pk_un (by decide), pk_un (by decide), pk_un (by decide), h1]
  rw [d1, doI_some, seqM_eq, d2, doI_some, seqM_eq, d3, doI_some, mcomes_ev h1' hn hfu, doI_some]
theorem Lv.deal {σ τ : Row} (h : Lv n σ τ) : Lv (n + 1) (dealS σ n) (dealS τ n) := by
  unfold dealS dealT
  rw [h.l (show 0 < 16 by decide)]
  exact Lv.seat (h.up.up.up)
theorem deal_L {k : Nat} (hk5 : k ≤ 5) (hfu : 7 < fu) : ∀ (f i n : Nat) (σ : Row), i ≤ k → k - i < f → ROK 9999 n σ → WOK n σ → ∃ (r : Int32) (n' : Nat) (σ' : Row), ROK 9999 n' σ' ∧ WOK n' σ' ∧ σ' 15 = σ 15 ∧ (∀ key, key < 3 → σ' (51 + key) = σ (51 + key)) ∧ (∀ m, f_X8_deal_16 fu f (nI k) (nI i) (nI i) (lay (70 * 0) 54 σ m) = some (r, lay (70 * 0) 54 σ' m)) ∧ (∀ τ, Lv n σ τ → ∃ τ', Lv n' σ' τ' ∧ ∀ m, f_X9_deal_14 fu f (nI k) (nI i) (lay 4000 51 τ m) = some (r, lay 4000 51 τ' m)) := by
  intro f
  induction f with
  | zero => intro i _ _ _ h; omega
  | succ f ih =>
    intro i n σ hi hf hk hw
    have h1 := hk.1
    have hn := hk.2.1
    by_cases he : i = k
    · subst he
      refine ⟨nI i, n, σ, hk, hw, rfl, fun _ _ => rfl, fun m => ?_, fun τ hτ => ⟨τ, hτ, fun m => ?_⟩⟩
      · rw [f_X8_deal_16, if_pos (nI_le (Nat.le_refl _) (by omega))]
      · rw [f_X9_deal_14, if_pos (nI_le (Nat.le_refl _) (by omega))]
    · by_cases hr : n < 5
      · obtain ⟨a, b⟩ := dealS_ROK hk hw hr
        obtain ⟨r, n', σ', q1, q2, q3, q4, q5, q6⟩ := ih (i + 1) (n + 1) (dealS σ n) (by omega) (by omega) a b
        refine ⟨r, n', σ', q1, q2, by rw [q3, dealS_hi hr (Or.inl rfl)], fun key hkey => by rw [q4 key hkey, dealS_hi hr (Or.inr (by omega))], fun m => ?_, fun τ hτ => ?_⟩
        · rw [f_X8_deal_16, if_neg (nI_ge (by omega) (by omega)), chasRoom_ev h1 hn, bz_t hr]
          simp only [doI_some, doV_some, seqM_eq, chk_t, show ¬ (1 : Int32) = 0 by decide, if_false, if_true, cdeal1 h1 hr, nI_1]
          exact q5 m
        · obtain ⟨τ', g1, g2⟩ := q6 (dealS τ n) hτ.deal
          refine ⟨τ', g1, fun m => ?_⟩
          have t1 : τ 1 = nI n := (hτ.l (by decide)).trans h1
          rw [f_X9_deal_14, if_neg (nI_ge (by omega) (by omega))]
          simp only [Nat.reduceMul, Nat.reduceAdd, Int32.reduceToNatClampNeg, lm_1, t1]
          rw [if_neg (by rw [show (5 : Int32) = nI 5 from rfl]; exact nI_ge hr (by decide))]
          rw [mdeal1 t1 hr hfu]
          simp only [seqM_eq, nI_1]
          exact g2 m
      · refine ⟨nI i, n, σ, hk, hw, rfl, fun _ _ => rfl, fun m => ?_, fun τ hτ => ⟨τ, hτ, fun m => ?_⟩⟩
        · rw [f_X8_deal_16, if_neg (nI_ge (by omega) (by omega)), chasRoom_ev h1 hn, bz_f hr]
          simp only [doI_some, doV_some, seqM_eq, chk_t, show ¬ (1 : Int32) = 0 by decide, if_false, if_true]
        · rw [f_X9_deal_14, if_neg (nI_ge (by omega) (by omega))]
          simp only [Nat.reduceMul, Nat.reduceAdd, Int32.reduceToNatClampNeg, lm_1, (hτ.l (show 1 < 16 by decide)).trans h1]
          rw [if_pos (by rw [show (5 : Int32) = nI 5 from rfl]; exact nI_le (by omega) (by omega))]
theorem op_deal (hf : 96 < fu) (hI : Inv m) : Op (f_X8_deal fu x1) (f_X9_deal fu x1) m := by
  refine op_row hI (fun n N σ X hc ht hk hw => ?_)
  by_cases hA : inR x1 1 5
  · obtain ⟨k, k1, k5, rfl⟩ := inR_nI (a := 1) (b := 5) (by decide) (by decide) hA
    obtain ⟨r, n', σ', q1, q2, q3, q4, q5, q6⟩ := deal_L (fu := fu) k5 (by omega) fu 0 n σ (by omega) (by omega) hk hw
    refine ⟨r, n', σ', q1, q2, q3, q4, ⟨m, fr_nil, ?_⟩, fun τ hτ m0 _ => ?_⟩
    · unfold f_X8_deal
      simp only [within_ev, bz_t hA, doI_some, doV_some, seqM_eq, chk_t, show ¬ (1 : Int32) = 0 by decide, if_false, if_true]
      exact q5 m
    · obtain ⟨τ', g1, g2⟩ := q6 τ hτ
      refine ⟨τ', m0, g1, fr_nil, ?_⟩
      unfold f_X9_deal
      simp only [in_ev, bz_t hA, doI_some, doV_some, seqM_eq, chk_t, show ¬ (1 : Int32) = 0 by decide, if_false, if_true]
      exact g2 m0
  · refine rr_same (r := -1000000001) hk hw ?_ (fun τ hτ m0 => ?_)
    · unfold f_X8_deal
      simp only [within_ev, bz_f hA, doI_some, doV_some, seqM_eq, chk_t, show ¬ (1 : Int32) = 0 by decide, if_false, if_true]
    · unfold f_X9_deal
      simp only [in_ev, bz_f hA, doI_some, doV_some, seqM_eq, chk_t, show ¬ (1 : Int32) = 0 by decide, if_false, if_true]
/-! tenths -/
theorem min_eq {T k : Nat} (hT : T ≤ 9999) (hk : k ≤ 100) : (if (9999 - nI T) < nI k then (9999 - nI T) else nI k) = nI (min k (9999 - T)) ∧ clampO (9999 - nI T) (nI k) = nI (min k (9999 - T)) := by
  have e : (9999 : Int32) - nI T = nI (9999 - T) := by rw [show (9999 : Int32) = nI 9999 from rfl, pk_sub hT]
  rw [e]
  constructor
  · by_cases h : 9999 - T < k
    · rw [if_pos (nI_lt h (by omega)), Nat.min_eq_right (by omega)]
    · rw [if_neg (nI_nlt (by omega) (by omega)), Nat.min_eq_left (by omega)]
  · unfold clampO
    rw [if_pos (nI_pos' (by omega))]
    by_cases h : 9999 - T ≤ k
    · rw [if_pos (nI_le h (by omega)), Nat.min_eq_right h]
    · rw [if_neg (nI_ge (by omega) (by omega)), Nat.min_eq_left (by omega)]
theorem ROK.re {B : Nat} (h : ROK B n σ) : ∃ T, T ≤ B ∧ σ 2 = nI T ∧ ROK T n σ := by
  obtain ⟨a, b, c, d, ⟨T', s, h, j, hT1, eT, hs1, es, hh, eh, hj, ej⟩⟩ := h
  exact ⟨T', hT1, eT, a, b, c, d, T', s, h, j, Nat.le_refl _, eT, hs1, es, hh, eh, hj, ej⟩
theorem ROK.mono {B B' : Nat} (h : ROK B n σ) (hB : B ≤ B') : ROK B' n σ := by
  obtain ⟨a, b, c, d, ⟨T', s, h, j, hT1, eT, hs1, es, hh, eh, hj, ej⟩⟩ := h
  exact ⟨a, b, c, d, T', s, h, j, by omega, eT, hs1, es, hh, eh, hj, ej⟩
theorem goOnS_1 {off : Off} {v : Nat} : goOnS off n σ (ps v 1) = σ (ps v 1) := by
  have hp := @ps_ge v 1
  have h2 : (if speakN σ n = 0 then actS n σ else σ) (ps v 1) = σ (ps v 1) := by
    split
    · exact actS_o (by omega) (by omega) (by omega) (by omega) (by omega) (fun u _ => ⟨ps_ne (by decide) (by decide) (by decide), ps_ne (by decide) (by decide) (by decide), ps_ne (by decide) (by decide) (by decide)⟩)
    · rfl
  unfold goOnS tickS lastS
  generalize (if speakN σ n = 0 then actS n σ else σ) = τ at h2 ⊢
  rw [pk_un (by omega)]
  split
  · rw [bearS_o (by omega) (by omega) (by omega) (by omega), h2]
  · exact h2
theorem tenthsS_W {off : Off} (hw : WOK n σ) : ∀ k (σ : Row), WOK n σ → WOK n (tenthsS off n k σ) := by
  intro k
  induction k with
  | zero => intro σ h; exact h
  | succ k ih =>
    intro σ h
    refine ih _ (fun u hu => ?_)
    unfold tenthS hearS
    have hp := @ps_ge u 1
    rw [goOnS_1, stillS_o (by omega) (by omega) (by omega), hearN_f (by decide) (by decide)]
    exact h u hu
theorem op_tenths (hf : 200 < fu) (hI : Inv m) : Op (f_X8_tenths fu x1) (f_X9_tenths fu x1) m := by
  refine op_row hI (fun n N σ X hc ht hk hw => ?_)
  by_cases hA : inR x1 1 100
  · obtain ⟨k, k1, k5, rfl⟩ := inR_nI (a := 1) (b := 100) (by decide) (by decide) hA
    obtain ⟨T, hT, eT, hkT⟩ := hk.re
    obtain ⟨e1, e2⟩ := min_eq hT k5
    have hc2 : min k (9999 - T) ≤ k := Nat.min_le_left _ _
    have hc3 : min k (9999 - T) ≤ 9999 - T := Nat.min_le_right _ _
    generalize min k (9999 - T) = c at e1 e2 hc2 hc3
    obtain ⟨hN, hv, hC, hM⟩ := ht
    obtain ⟨m1, q1, q2⟩ := crun_ev (fu := fu) (t := 0) (m := m) (k := c) (by omega) (by omega) (by omega) (by omega) hkT (offC_ev (by decide) hN (by omega) hv hC) (hc.2 0 (by decide))
    refine ⟨tenthsS (offT X N) n c σ 7 - σ 7, n, tenthsS (offT X N) n c σ, (tenthsS_ROK c T σ (by omega) hkT).mono (by omega), tenthsS_W hw c σ hw, tenthsS_o hk.2.1 (by omega) c σ, fun key _ => tenthsS_o hk.2.1 (by omega) c σ, ⟨m1, (Fr.sc q1).sub (by decide), ?_⟩, fun τ hτ m0 ht0 => ?_⟩
    · unfold f_X8_tenths
      simp only [within_ev, bz_t hA, doI_some, doV_some, seqM_eq, chk_t, show ¬ (1 : Int32) = 0 by decide, if_false, if_true, lc_get (show 7 < 54 by decide), lc_get (show 2 < 54 by decide), eT, e1, q2]
    · obtain ⟨-, -, -, hM0⟩ := ht0
      obtain ⟨m2, q3, q4⟩ := mrun_ev (fu := fu) (m := m0) (k := c) (by omega) (by omega) (by omega) (by omega) (hτ.rok hkT) (offM_ev hN (by omega) hv hM0) ((hτ.l (by decide)).trans hc.1)
      have hL := hτ.tenths (off := offT X N) c
      refine ⟨_, m2, hL, (Fr.sm q3).sub (by decide), ?_⟩
      unfold f_X9_tenths
      simp only [in_ev, bz_t hA, doI_some, doV_some, seqM_eq, chk_t, show ¬ (1 : Int32) = 0 by decide, if_false, if_true, Nat.reduceMul, Nat.reduceAdd, Int32.reduceToNatClampNeg, lm_7, lm_2, hτ.l (show 7 < 16 by decide), hτ.l (show 2 < 16 by decide), eT, mwithin_ev, e2, q4, hL.l (show 7 < 16 by decide)]
  · refine rr_same (r := -1000000001) hk hw ?_ (fun τ hτ m0 => ?_)
    · unfold f_X8_tenths
      simp only [within_ev, bz_f hA, doI_some, doV_some, seqM_eq, chk_t, show ¬ (1 : Int32) = 0 by decide, if_false, if_true]
    · unfold f_X9_tenths
      simp only [in_ev, bz_f hA, doI_some, doV_some, seqM_eq, chk_t, show ¬ (1 : Int32) = 0 by decide, if_false, if_true]
/-! fee, fine, why -/
theorem cgives_row {key : Nat} (hN : N ≤ 14) (hf : 96 < fu) (hv : TxV X N) (hc : TxC X N m) {t : Nat} (ht : lastO X.1 key N = some t) {a b d : Int32} : ∃ m2, Fr scr m m2 ∧ f_X6_give fu (nI t) a b d (lay (70 * 0) 54 σ m) = some (giveV (X.2.2.2 t) (X.2.2.1 t) a b d, lay (70 * 0) 54 σ m2) := by
  have hc1 : TxC X N (lay (70 * 0) 54 σ m) := by
    intro u hu
    obtain ⟨h1, h2, h3, h4⟩ := hc u hu
    have ho : ∀ k, 270 ≤ k → lay (70 * 0) 54 σ m k = m k := fun k hk => lay_out (by omega)
    exact ⟨by rw [ho _ (by unfold tf; omega)]; exact h1, by rw [ho _ (by unfold tf; omega)]; exact h2, by rw [ho _ (by unfold tf; omega)]; exact h3, fun i hi => by rw [ho _ (by omega)]; exact h4 i hi⟩
  obtain ⟨m3, q1, q2⟩ := cgives_ev (a := a) (b := b) (d := d) hN hf hv hc1 ht
  have e : m3 = lay (70 * 0) 54 σ (fun k => if 800 ≤ k ∧ k < 896 then m3 k else m k) := by
    funext k
    unfold lay
    by_cases hk : 70 * 0 ≤ k ∧ k < 70 * 0 + 54
    · rw [if_pos hk, q1 k (by omega)]
      unfold lay
      rw [if_pos hk]
    · rw [if_neg hk]
      show m3 k = (if 800 ≤ k ∧ k < 896 then m3 k else m k)
      by_cases h7 : 800 ≤ k ∧ k < 896
      · rw [if_pos h7]
      · rw [if_neg h7, q1 k h7]
        unfold lay
        rw [if_neg hk]
  refine ⟨fun k => if 800 ≤ k ∧ k < 896 then m3 k else m k, (Fr.sc (fun j hj => if_neg hj)).sub (by decide), ?_⟩
  rw [q2, ← e]
theorem mfacts {a b : Int32} : upd (upd (lay 4000 51 σ m) 3800 a) 3801 b = lay 4000 51 σ (upd (upd m 3800 a) 3801 b) := by
  rw [lay_updO (by decide), lay_updO (by decide)]
theorem TXI.up {a b : Int32} (h : TXI X N m) : TXI X N (upd (upd m 3800 a) 3801 b) := h.on (fun k hk => by
  obtain ⟨q, hq, h1, h2⟩ := hk
  have : sTX.all (fun q => Nat.ble 3802 q.1 || Nat.ble q.2 3800) = true := by decide
  have := List.all_eq_true.mp this q hq
  simp only [Bool.or_eq_true, Nat.ble_eq] at this
  rw [pk_un (by omega), pk_un (by omega)])
theorem frfacts {a b : Int32} {m2 : Mem} (h : ∀ j, ¬ (3700 ≤ j ∧ j < 3796) → m2 j = upd (upd m 3800 a) 3801 b j) : Fr scr m m2 := fun k hk => by
  have h1 := hk (3700, 3804) (by decide)
  simp only at h1
  rw [h k (by omega), pk_un (by omega), pk_un (by omega)]
theorem frfacts0 {a b : Int32} : Fr scr m (upd (upd m 3800 a) 3801 b) := frfacts (fun _ _ => rfl)
theorem op_fee (hf : 96 < fu) (hI : Inv m) : Op (f_X8_fee fu) (f_X9_fee fu) m := by
  refine op_row hI (fun n N σ X hc ht hk hw => ?_)
  obtain ⟨hN, hv, hC, hM⟩ := ht
  have e52 : σ 52 = optI (lastO X.1 1 N) := hc.2 1 (by decide)
  refine ⟨givesT X (lastO X.1 1 N) (σ 7) (σ 7) (σ 11) 0, n, σ, hk, hw, rfl, fun _ _ => rfl, ?_, fun τ hτ m0 ht0 => ?_⟩
  · unfold f_X8_fee
    rw [show 51 + 70 * 0 + (1 : Int32).toNatClampNeg = sf 0 52 by decide, lc_get (by decide), seqM_eq, e52, lc_get (by decide), lc_get (by decide)]
    cases ho : lastO X.1 1 N with
    | none => rw [if_neg optI_neg]; exact ⟨m, fr_nil, rfl⟩
    | some t =>
      have htl := (lastO_lt N ho).1
      rw [if_pos (optI_pos (by omega))]
      obtain ⟨m2, q1, q2⟩ := cgives_row (σ := σ) (a := σ 7) (b := σ 11) (d := 0) hN hf hv hC ho
      refine ⟨m2, q1, ?_⟩
      rw [show optI (some t) = nI t from rfl, q2]
      rfl
  · have ht0' := ht0
    obtain ⟨-, -, -, hM0⟩ := ht0
    unfold f_X9_fee
    have hcnt := mcounts_ev (fu := fu) (key := 1) (σ := τ) hN (by omega) hv hM0 (by decide) ((hτ.l (by decide)).trans hc.1)
    rw [show nI 1 = (1 : Int32) from rfl] at hcnt
    rw [hcnt]
    simp only [doI_some, doV_some, seqM_eq, chk_t, Nat.reduceMul, Nat.reduceAdd, Int32.reduceToNatClampNeg, lm_7, hτ.l (show 7 < 16 by decide)]
    rw [show (upd (lay 4000 51 τ m0) 3800 (σ 7)) 4011 = σ 11 by rw [pk_un (by decide), lm_11, hτ.l (by decide)], mfacts]
    cases ho : lastO X.1 1 N with
    | none =>
      rw [if_neg optI_neg]
      simp only [lm_7, hτ.l (show 7 < 16 by decide)]
      exact ⟨τ, _, hτ, frfacts0, rfl⟩
    | some t =>
      have htl := (lastO_lt N ho).1
      rw [if_pos (optI_pos (by omega))]
      obtain ⟨m2, q1, q2⟩ := mgives_ev (fu := fu) (σ := τ) (d := 0) hN hf hv (ht0'.up (a := σ 7) (b := σ 11)).2.2.2 ho (by rw [pk_un (by decide), pk_us]) pk_us (fun z => absurd z (by decide))
      rw [show optI (some t) = nI t from rfl, q2]
      exact ⟨τ, m2, hτ, frfacts q1, rfl⟩
theorem op_fine (hf : 96 < fu) (hI : Inv m) : Op (f_X8_fine fu x1) (f_X9_fine fu x1) m := by
  refine op_row hI (fun n N σ X hc ht hk hw => ?_)
  have h1 := hk.1
  have hn := hk.2.1
  by_cases hvp : isVp n x1
  · obtain ⟨v, hvn, rfl⟩ := isVp_of hn hvp
    have hv5 : v < 5 := by omega
    obtain ⟨hN, hv, hC, hM⟩ := ht
    have e53 : σ 53 = optI (lastO X.1 2 N) := hc.2 2 (by decide)
    refine ⟨givesT X (lastO X.1 2 N) (σ (ps v 6)) (σ (ps v 6)) (σ (ps v 4)) 0, n, σ, hk, hw, rfl, fun _ _ => rfl, ?_, fun τ hτ m0 ht0 => ?_⟩
    · unfold f_X8_fine
      simp only [chas_ev h1, bz_t hvp, doI_some, doV_some, seqM_eq, chk_t, show ¬ (1 : Int32) = 0 by decide, if_false, if_true, inb_nI hv5 (show 5 < 2 ^ 31 by decide), nI_clamp (show v < 2 ^ 31 by omega), lc_vget hv5 (show 6 < 7 by decide), lc_vget hv5 (show 4 < 7 by decide)]
      rw [show 51 + 70 * 0 + (2 : Int32).toNatClampNeg = sf 0 53 by decide, lc_get (by decide), e53]
      cases ho : lastO X.1 2 N with
      | none => rw [if_neg optI_neg]; exact ⟨m, fr_nil, rfl⟩
      | some t =>
        have htl := (lastO_lt N ho).1
        rw [if_pos (optI_pos (by omega))]
        obtain ⟨m2, q1, q2⟩ := cgives_row (σ := σ) (a := σ (ps v 6)) (b := σ (ps v 4)) (d := 0) hN hf hv hC ho
        refine ⟨m2, q1, ?_⟩
        rw [show optI (some t) = nI t from rfl, q2]
        rfl
    · have ht0' := ht0
      obtain ⟨-, -, -, hM0⟩ := ht0
      unfold f_X9_fine
      have hcnt := mcounts_ev (fu := fu) (key := 2) (σ := τ) hN (by omega) hv hM0 (by decide) ((hτ.l (by decide)).trans hc.1)
      rw [show nI 2 = (2 : Int32) from rfl] at hcnt
      simp only [misV_ev hn ((hτ.l (by decide)).trans h1), bz_t hvp, doI_some, doV_some, seqM_eq, chk_t, show ¬ (1 : Int32) = 0 by decide, if_false, if_true, hcnt, of_6 hv5, hτ.f hvn (show 6 < 7 by decide), Int32.reduceToNatClampNeg, Nat.reduceAdd]
      rw [lay_updO (show 3800 < 4000 ∨ 4000 + 51 ≤ 3800 by decide)]
      simp only [of_4 hv5, hτ.f hvn (show 4 < 7 by decide), doI_some, doV_some, seqM_eq, chk_t]
      rw [lay_updO (show 3801 < 4000 ∨ 4000 + 51 ≤ 3801 by decide)]
      simp only [of_6 hv5, hτ.f hvn (show 6 < 7 by decide), doI_some, doV_some, seqM_eq, chk_t]
      cases ho : lastO X.1 2 N with
      | none =>
        rw [if_neg optI_neg]
        exact ⟨τ, _, hτ, frfacts0, rfl⟩
      | some t =>
        have htl := (lastO_lt N ho).1
        rw [if_pos (optI_pos (by omega))]
        obtain ⟨m2, q1, q2⟩ := mgives_ev (fu := fu) (σ := τ) (d := 0) hN hf hv (ht0'.up (a := σ (ps v 6)) (b := σ (ps v 4))).2.2.2 ho (by rw [pk_un (by decide), pk_us]) pk_us (fun z => absurd z (by decide))
        rw [show optI (some t) = nI t from rfl, q2]
        exact ⟨τ, m2, hτ, frfacts q1, rfl⟩
  · refine rr_same (r := -1000000001) hk hw ?_ (fun τ hτ m0 => ?_)
    · unfold f_X8_fine
      simp only [chas_ev h1, bz_f hvp, doI_some, doV_some, seqM_eq, chk_t, show ¬ (1 : Int32) = 0 by decide, if_false, if_true]
    · unfold f_X9_fine
      simp only [misV_ev hn ((hτ.l (by decide)).trans h1), bz_f hvp, doI_some, doV_some, seqM_eq, chk_t, show ¬ (1 : Int32) = 0 by decide, if_false, if_true]
theorem op_why (hf : 96 < fu) (hI : Inv m) : Op (f_X8_why fu x1) (f_X9_why fu x1) m := by
  refine op_row hI (fun n N σ X hc ht hk hw => ?_)
  by_cases hA : inR x1 0 2
  · obtain ⟨k, -, k5, rfl⟩ := inR_nI (a := 0) (b := 2) (by decide) (by decide) hA
    obtain ⟨hN, hv, hC, hM⟩ := ht
    have ek := hc.2 k (by omega)
    refine ⟨(if (0 : Int32) ≤ optI (lastO X.1 k N) then optI (lastO X.1 k N) else -1000000005), n, σ, hk, hw, rfl, fun _ _ => rfl, ⟨m, fr_nil, ?_⟩, fun τ hτ m0 ht0 => ⟨τ, m0, hτ, fr_nil, ?_⟩⟩
    · unfold f_X8_why
      have ea : lay (70 * 0) 54 σ m (51 + 70 * 0 + k) = σ (51 + k) := by
        have := @lc_get 0 (51 + k) σ m (by omega)
        unfold sf at this
        exact (congrArg (lay (70 * 0) 54 σ m) (show 51 + 70 * 0 + k = 70 * 0 + (51 + k) by omega)).trans this
      simp only [within_ev, bz_t hA, doI_some, doV_some, seqM_eq, chk_t, show ¬ (1 : Int32) = 0 by decide, if_false, if_true, inb_nI (show k < 3 by omega) (show 3 < 2 ^ 31 by decide), nI_clamp (show k < 2 ^ 31 by omega), ea, ek, some_ite]
    · obtain ⟨-, -, -, hM0⟩ := ht0
      unfold f_X9_why
      simp only [in_ev, bz_t hA, doI_some, doV_some, seqM_eq, chk_t, show ¬ (1 : Int32) = 0 by decide, if_false, if_true, mcounts_ev (fu := fu) hN (show 14 < fu by omega) hv hM0 (show k < 3 by omega) ((hτ.l (show 15 < 16 by decide)).trans hc.1), some_ite]
  · refine rr_same (r := -1000000001) hk hw ?_ (fun τ hτ m0 => ?_)
    · unfold f_X8_why
      simp only [within_ev, bz_f hA, doI_some, doV_some, seqM_eq, chk_t, show ¬ (1 : Int32) = 0 by decide, if_false, if_true]
    · unfold f_X9_why
      simp only [in_ev, bz_f hA, doI_some, doV_some, seqM_eq, chk_t, show ¬ (1 : Int32) = 0 by decide, if_false, if_true]
end OPC
