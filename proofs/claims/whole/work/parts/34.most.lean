/-! PURE: apart, patience, device, filler, becomes -/
section MOST
variable {fu n N v k B : Nat} {σ τ ρ : Row} {m M M' : Mem} {X : TxS} {x x1 x2 x3 : Int32}
theorem ROK.wait (h : ROK 9999 n σ) (hv : v < n) {w : Nat} (h1 : 1 ≤ w) (h2 : w ≤ 80) : ROK 9999 n (upd σ (ps v 1) (nI w)) := by
  refine h.upd_v hv (by decide) ?_
  obtain ⟨a0, a1, a2, a3, a4, a5⟩ := h.2.2.1 v hv
  unfold VOK
  rw [pk_un (ps_ne (j := 0) (k := 1) (by decide) (by decide) (by decide)), pk_us, pk_un (ps_ne (j := 2) (k := 1) (by decide) (by decide) (by decide)), pk_un (ps_ne (j := 3) (k := 1) (by decide) (by decide) (by decide)), pk_un (ps_ne (j := 4) (k := 1) (by decide) (by decide) (by decide)), pk_un (ps_ne (j := 5) (k := 1) (by decide) (by decide) (by decide))]
  exact ⟨a0, ⟨w, h1, h2, rfl⟩, a2, a3, a4, a5⟩
theorem ROK.kind (h : ROK 9999 n σ) (hv : v < n) {w : Nat} (h2 : w < 6) : ROK 9999 n (upd σ (ps v 0) (nI w)) := by
  refine h.upd_v hv (by decide) ?_
  obtain ⟨a0, a1, a2, a3, a4, a5⟩ := h.2.2.1 v hv
  unfold VOK
  rw [pk_us, pk_un (ps_ne (j := 1) (k := 0) (by decide) (by decide) (by decide)), pk_un (ps_ne (j := 2) (k := 0) (by decide) (by decide) (by decide)), pk_un (ps_ne (j := 3) (k := 0) (by decide) (by decide) (by decide)), pk_un (ps_ne (j := 4) (k := 0) (by decide) (by decide) (by decide)), pk_un (ps_ne (j := 5) (k := 0) (by decide) (by decide) (by decide))]
  exact ⟨⟨w, h2, rfl⟩, a1, a2, a3, a4, a5⟩
/-! apart -/
def apN (a : Nat → Int32) (b : Int32) : Nat → Nat → Int32
  | _, 0 => -1000000005
  | i, c + 1 => if a i = b then nI i else apN a b (i + 1) c
def apT (off : Off) (n k v : Nat) (σ : Row) (i : Nat) : Int32 := tenthsS off n k (upd σ (ps v 1) (σ (ps v 1) + nI i)) 11
theorem apOK (hk : ROK 9999 n σ) (hw : WOK n σ) (hv : v < n) {i : Nat} (hi : i ≤ 20) : ROK 9999 n (upd σ (ps v 1) (σ (ps v 1) + nI i)) := by
  obtain ⟨w, w1, w2, e⟩ := hw v hv
  rw [e, nI_add]
  exact hk.wait hv (by omega) (by omega)
theorem capart_L (hf : 200 < fu) (hk : ROK 9999 n σ) (hw : WOK n σ) (hv : v < n) (h51 : σ 51 = optI (lastO X.1 0 N)) (hk6 : k ≤ 60) : ∀ (f i : Nat) (M : Mem), i ≤ 21 → 21 - i < f → CM X N σ M → ∃ M', Fr scr M M' ∧ f_X8_apart_43 fu f (nI v) (nI k) (nI i) M = some (apN (apT (offT X N) n k v σ) (σ 11) i (21 - i), M') := by
  have hn := hk.2.1
  have hv5 : v < 5 := by omega
  intro f
  induction f with
  | zero => intro i _ _ h; omega
  | succ f ih =>
    intro i M hi hf2 hM
    rw [f_X8_apart_43]
    by_cases he : i = 21
    · subst he
      rw [if_pos (by decide)]
      exact ⟨M, fr_nil, rfl⟩
    · rw [if_neg (by rw [show (20 : Int32) = nI 20 from rfl]; exact nI_nlt (by omega) (by decide))]
      obtain ⟨σ1, l1, l2, e1⟩ := cthink (fu := fu) (by omega) hM hk
      have l3 : Lv n (upd σ (ps v 1) (σ (ps v 1) + nI i)) (upd σ1 (ps v 1) (σ (ps v 1) + nI i)) := l1.up
      obtain ⟨M2, s1, e2⟩ := crun1 (ρ := upd σ1 (ps v 1) (σ (ps v 1) + nI i)) hf hM (show k ≤ 200 by omega) (by decide) (l3.rok (apOK hk hw hv (by omega))) (by rw [pk_un (by unfold ps; omega)]; exact (l2 0 (by decide)).trans h51)
      have L := l3.tenths (off := offT X N) k
      have hM2 := hM.fr (fr_sc s1)
      have e11 : lay (70 * 1) 54 (tenthsS (offT X N) n k (upd σ1 (ps v 1) (σ (ps v 1) + nI i))) M2 (sf 0 11) = σ 11 := by
        rw [lay_out (by unfold sf; omega)]
        exact hM2.2.2.1 11 (by decide)
      rw [e1, doV_some, inb_nI hv5 (by decide), chk_t, nI_clamp (by omega), lc_vget hv5 (by decide), l1.f hv (by decide), lc_vupd hv5 (by decide), seqM_eq, e2, doV_some, lc_get (by decide), e11, L.l (by decide), show 21 - i = (21 - (i + 1)) + 1 by omega, apN]
      show ∃ M', Fr scr M M' ∧ (if apT (offT X N) n k v σ i = σ 11 then _ else _) = _
      have fr := fr_tr (fr_sc s1) (fr_lay1 (ρ := tenthsS (offT X N) n k (upd σ1 (ps v 1) (σ (ps v 1) + nI i))))
      by_cases hb : apT (offT X N) n k v σ i = σ 11
      · rw [if_pos hb, if_pos hb]
        exact ⟨_, fr, rfl⟩
      · rw [if_neg hb, if_neg hb, seqM_eq, nI_1]
        obtain ⟨M3, f3, e3⟩ := ih (i + 1) _ (by omega) (by omega) (hM.fr fr)
        exact ⟨M3, fr_tr fr f3, e3⟩
theorem mapart_L (hf : 200 < fu) (hk : ROK 9999 n σ) (hw : WOK n σ) (hv : v < n) (h15 : σ 15 = nI N) (hl : Lv n σ τ) (hk6 : k ≤ 60) : ∀ (f i : Nat) (M : Mem), i ≤ 21 → 21 - i < f → MM X N τ M → ∃ M', Fr scr M M' ∧ f_X9_apart_41 fu f (nI v) (nI k) (nI i) (lay 4000 51 τ M) = some (apN (apT (offT X N) n k v σ) (σ 11) i (21 - i), lay 4000 51 τ M') := by
  have hn := hk.2.1
  have hv5 : v < 5 := by omega
  intro f
  induction f with
  | zero => intro i _ _ h; omega
  | succ f ih =>
    intro i M hi hf2 hM
    rw [f_X9_apart_41]
    by_cases he : i = 21
    · subst he
      rw [if_pos (by decide)]
      exact ⟨M, fr_nil, rfl⟩
    · rw [if_neg (by rw [show (20 : Int32) = nI 20 from rfl]; exact nI_nlt (by omega) (by decide))]
      have l3 : Lv n (upd σ (ps v 1) (σ (ps v 1) + nI i)) (upd τ (ps v 1) (σ (ps v 1) + nI i)) := hl.up
      obtain ⟨M2, s1, e2⟩ := mrun1 (ρ := upd τ (ps v 1) (σ (ps v 1) + nI i)) hf hM (show k ≤ 200 by omega) (by decide) (l3.rok (apOK hk hw hv (by omega))) (by rw [pk_un (by have := @ps_ge v 1; omega), hl.l (by decide)]; exact h15)
      have L := l3.tenths (off := offT X N) k
      have hM2 := hM.sm s1
      have hb2 := fun ρ => hM2.back (fu := fu) (ρ := ρ) (by omega)
      have e3111 : ∀ ρ, lay 4000 51 ρ M2 3111 = σ 11 := fun ρ => by
        rw [lay_out (by omega)]
        exact (hM2.2.2.1 11 (by decide)).trans (hl.l (by decide))
      unfold f_X9_apart_90
      simp only [of_1 hv5, hl.f hv (show 1 < 7 by decide), doI_some, doV_some, seqM_eq, chk_t, put_1 hv5, e2, Nat.reduceMul, Nat.reduceAdd, Int32.reduceToNatClampNeg, lm_11, e3111, L.l (show 11 < 16 by decide), hb2, show ¬ (1 : Int32) = 0 by decide, if_false, if_true]
      rw [show 21 - i = (21 - (i + 1)) + 1 by omega, apN]
      show ∃ M', Fr scr M M' ∧ (if apT (offT X N) n k v σ i = σ 11 then _ else _) = _
      by_cases hb : apT (offT X N) n k v σ i = σ 11
      · rw [if_pos hb, if_pos hb]
        exact ⟨_, fr_sm s1, rfl⟩
      · rw [if_neg hb, if_neg hb, nI_1]
        obtain ⟨M3, f3, e3⟩ := ih (i + 1) _ (by omega) (by omega) hM2
        exact ⟨M3, fr_tr (fr_sm s1) f3, e3⟩
theorem chasM (hM : CM X N σ M) (hk : ROK 9999 n σ) : f_X4_has fu 0 x M = some (bz (isVp n x), M) := by
  have := chas_ev (fu := fu) (x := x) (m := M) hk.1
  rw [← lay_of (b := 70 * 0) (n := 54) (m := M) (σ := σ) (fun q hq => by rw [show 70 * 0 + q = q by omega]; exact hM.2.2.1 q hq)] at this
  exact this
theorem op_apart (hf : 200 < fu) (hI : Inv m) : Op (f_X8_apart fu x1 x2 x3) (f_X9_apart fu x1 x2 x3) m := by
  refine op_think hI (fun n N σ X hc hN hv hk hw => ?_)
  have hn := hk.2.1
  have ex : ∀ τ, Lv n σ τ → τ 1 = nI n := fun τ hτ => (hτ.l (by decide)).trans hk.1
  by_cases h1 : isVp n x1
  · by_cases h2 : isVp n x2
    · by_cases h3 : x1 = x2
      · refine think_same (-1000000001) (fun M hM => ?_) (fun τ hτ M => ?_)
        · unfold f_X8_apart
          simp only [chasM hM hk, bz_t h1, bz_t h2, doI_some, doV_some, seqM_eq, chk_t, show ¬ (1 : Int32) = 0 by decide, if_false, if_pos h3]
        · unfold f_X9_apart
          simp only [misV_ev hn (ex τ hτ), bz_t h1, bz_t h2, doI_some, doV_some, seqM_eq, chk_t, show ¬ (1 : Int32) = 0 by decide, if_false, if_pos h3]
      · by_cases h4 : inR x3 1 60
        · obtain ⟨k, -, k6, rfl⟩ := inR_nI (a := 1) (b := 60) (by decide) (by decide) h4
          obtain ⟨v, hvn, rfl⟩ := isVp_of hn h2
          refine ⟨apN (apT (offT X N) n k v σ) (σ 11) 0 21, fun M hM => ?_, fun τ hτ M hM => ?_⟩
          · obtain ⟨M2, f2, e2⟩ := capart_L hf hk hw hvn (hc.2 0 (by decide)) k6 fu 0 M (by decide) (by omega) hM
            refine ⟨M2, f2, ?_⟩
            unfold f_X8_apart
            simp only [chasM hM hk, bz_t h1, bz_t h2, doI_some, doV_some, seqM_eq, chk_t, show ¬ (1 : Int32) = 0 by decide, if_false, if_neg h3, within_ev, bz_t h4]
            exact e2
          · obtain ⟨M1, f1, mm, e1⟩ := mthink (fu := fu) (τ := τ) (by omega) hN hv hM
            obtain ⟨M2, f2, e2⟩ := mapart_L hf hk hw hvn hc.1 hτ k6 fu 0 M1 (by decide) (by omega) mm
            refine ⟨M2, fr_tr f1 f2, ?_⟩
            unfold f_X9_apart
            simp only [misV_ev hn (ex τ hτ), bz_t h1, bz_t h2, doI_some, doV_some, seqM_eq, chk_t, show ¬ (1 : Int32) = 0 by decide, if_false, if_neg h3, in_ev, bz_t h4, e1]
            exact e2
        · refine think_same (-1000000001) (fun M hM => ?_) (fun τ hτ M => ?_)
          · unfold f_X8_apart
            simp only [chasM hM hk, bz_t h1, bz_t h2, doI_some, doV_some, seqM_eq, chk_t, show ¬ (1 : Int32) = 0 by decide, if_false, if_neg h3, within_ev, bz_f h4, if_true]
          · unfold f_X9_apart
            simp only [misV_ev hn (ex τ hτ), bz_t h1, bz_t h2, doI_some, doV_some, seqM_eq, chk_t, show ¬ (1 : Int32) = 0 by decide, if_false, if_neg h3, in_ev, bz_f h4, if_true]
    · refine think_same (-1000000001) (fun M hM => ?_) (fun τ hτ M => ?_)
      · unfold f_X8_apart
        simp only [chasM hM hk, bz_t h1, bz_f h2, doI_some, doV_some, seqM_eq, chk_t, show ¬ (1 : Int32) = 0 by decide, if_false, if_true]
      · unfold f_X9_apart
        simp only [misV_ev hn (ex τ hτ), bz_t h1, bz_f h2, doI_some, doV_some, seqM_eq, chk_t, show ¬ (1 : Int32) = 0 by decide, if_false, if_true]
  · refine think_same (-1000000001) (fun M hM => ?_) (fun τ hτ M => ?_)
    · unfold f_X8_apart
      simp only [chasM hM hk, bz_f h1, doI_some, doV_some, seqM_eq, chk_t, if_true]
    · unfold f_X9_apart
      simp only [misV_ev hn (ex τ hτ), bz_f h1, doI_some, doV_some, seqM_eq, chk_t, if_true]
/-! the best of many thoughts -/
def stepB (p : Int32 × Int32) (x L : Int32) : Int32 × Int32 := if L ≤ p.2 then p else (x, L)
def bestF (L : Nat → Int32) (a s : Nat) : Nat → Int32 × Int32
  | 0 => (0, -1)
  | i + 1 => stepB (bestF L a s i) (nI (a + s * i)) (L i)
def mostT (off : Off) (n k q a s : Nat) (σ : Row) (i : Nat) : Int32 := tenthsS off n k (upd σ q (nI (a + s * i))) 5
def ansB (y : Int32) (p : Int32 × Int32) : Int32 := if y = 0 then p.1 else p.2
def CB (p : Int32 × Int32) (M : Mem) : Prop := M 272 = p.1 ∧ M 273 = p.2
theorem weigh_ev {p : Int32 × Int32} {L : Int32} (hp : CB p M) : ∃ M', Fr [(272, 274)] M M' ∧ CB (stepB p x L) M' ∧ f_X0_weigh fu x L M = some M' := by
  unfold f_X0_weigh stepB
  rw [hp.2]
  by_cases h : L ≤ p.2
  · rw [if_pos h, if_pos h]
    exact ⟨M, fr_nil, hp, rfl⟩
  · rw [if_neg h, if_neg h]
    refine ⟨_, fun k hk => ?_, ⟨?_, ?_⟩, rfl⟩
    · have := hk (272, 274) List.mem_cons_self
      simp only at this
      rw [pk_un (by omega), pk_un (by omega)]
    · rw [pk_un (by decide), pk_us]
    · rw [pk_us]
theorem cmost_L {F : Nat → Int32 → Mem → Option (Int32 × Mem)} {y : Int32} {q a s c : Nat} (hs : s ≤ 5) (ha : a ≤ 5) (hc60 : c ≤ 61) (hq : q < 51) (hq1 : q ≠ 1) (hF : ∀ f i M, i ≤ c → F (f + 1) (nI (a + s * i)) M = if i = c then (doI (f_X0_answer fu y M) (fun r_3 m_2 => some (r_3, m_2))) else doV (f_X4_become fu 1 0 M) (fun m_5 => doV (f_X4_run fu 1 (nI k) (upd m_5 (sf 1 q) (nI (a + s * i)))) (fun m_9 => doV (f_X0_weigh fu (nI (a + s * i)) (m_9 (sf 1 5)) m_9) (fun m_11 => F f (nI (a + s * (i + 1))) m_11)))) (hf : 200 < fu) (hk : ROK 9999 n σ) (hr : ∀ i, i < c → ROK 9999 n (upd σ q (nI (a + s * i)))) (h51 : σ 51 = optI (lastO X.1 0 N)) (hk6 : k ≤ 60) : ∀ (f i : Nat) (M : Mem), i ≤ c → c - i < f → CM X N σ M → CB (bestF (mostT (offT X N) n k q a s σ) a s i) M → ∃ M', Fr scr M M' ∧ F f (nI (a + s * i)) M = some (ansB y (bestF (mostT (offT X N) n k q a s σ) a s c), M') := by
  have hn := hk.2.1
  intro f
  induction f with
  | zero => intro i _ _ h; omega
  | succ f ih =>
    intro i M hi hf2 hM hB
    rw [hF f i M hi]
    by_cases he : i = c
    · subst he
      rw [if_pos rfl]
      refine ⟨M, fr_nil, ?_⟩
      unfold f_X0_answer ansB
      rw [hB.1, hB.2]
      split <;> rfl
    · rw [if_neg he]
      obtain ⟨σ1, l1, l2, e1⟩ := cthink (fu := fu) (by omega) hM hk
      have l3 : Lv n (upd σ q (nI (a + s * i))) (upd σ1 q (nI (a + s * i))) := l1.up
      obtain ⟨M2, s1, e2⟩ := crun1 (ρ := upd σ1 q (nI (a + s * i))) hf hM (show k ≤ 200 by omega) (by decide) (l3.rok (hr i (by omega))) (by rw [pk_un (by omega)]; exact (l2 0 (by decide)).trans h51)
      have L := l3.tenths (off := offT X N) k
      have fr := fr_tr (fr_sc s1) (fr_lay1 (ρ := tenthsS (offT X N) n k (upd σ1 q (nI (a + s * i)))))
      have hB2 : CB (bestF (mostT (offT X N) n k q a s σ) a s i) (lay (70 * 1) 54 (tenthsS (offT X N) n k (upd σ1 q (nI (a + s * i)))) M2) := ⟨by rw [lay_out (by omega), s1 _ (by omega)]; exact hB.1, by rw [lay_out (by omega), s1 _ (by omega)]; exact hB.2⟩
      obtain ⟨M4, f4, hB4, e4⟩ := weigh_ev (fu := fu) (x := nI (a + s * i)) (L := mostT (offT X N) n k q a s σ i) hB2
      have fr4 : Fr scr M M4 := fr_tr fr (f4.sub (by decide))
      rw [e1, doV_some, lc_upd (by omega), e2, doV_some, lc_get (by decide), L.l (by decide)]
      show ∃ M', Fr scr M M' ∧ (doV (f_X0_weigh fu (nI (a + s * i)) (mostT (offT X N) n k q a s σ i) _) _) = _
      rw [e4, doV_some]
      obtain ⟨M5, f5, e5⟩ := ih (i + 1) M4 (by omega) (by omega) (hM.fr fr4) hB4
      exact ⟨M5, fr_tr fr4 f5, e5⟩
theorem bestF_1 {L : Nat → Int32} {a s : Nat} (ha : a ≤ 5) (hs : s ≤ 5) : ∀ i, i ≤ 61 → ∃ j, j ≤ 400 ∧ (bestF L a s i).1 = nI j := by
  intro i
  induction i with
  | zero => intro _; exact ⟨0, by decide, rfl⟩
  | succ i ih =>
    intro hi
    rw [bestF, stepB]
    split
    · exact ih (by omega)
    · refine ⟨a + s * i, ?_, rfl⟩
      have : s * i ≤ 5 * 61 := Nat.mul_le_mul hs (by omega)
      omega
theorem mostT_nI {off : Off} {q a s i : Nat} (hk6 : k ≤ 60) (hr : ROK 9999 n (upd σ q (nI (a + s * i)))) : ∃ l, l ≤ 9999 ∧ mostT off n k q a s σ i = nI l := (tenthsS_ROK (off := off) k 9999 _ (by omega) hr).2.2.2.1
theorem mmost_L {y : Int32} {q a s c h : Nat} (hs : s ≤ 5) (ha : a ≤ 5) (hc1 : 1 ≤ c) (hc60 : c ≤ 61) (hq : q < 51) (hq1 : q ≠ 15) (hh : h ≤ 300) (hhc : ∀ i, i ≤ c → (h < a + s * i ↔ i = c)) (hf : 200 < fu) (hk : ROK 9999 n σ) (hr : ∀ i, i < c → ROK 9999 n (upd σ q (nI (a + s * i)))) (h15 : σ 15 = nI N) (hl : Lv n σ τ) (hk6 : k ≤ 60) : ∀ (f i : Nat) (p : Int32 × Int32) (M : Mem), i ≤ c → c - i < f → MM X N τ M → ((i = 0 ∧ p = (-1, 0)) ∨ (1 ≤ i ∧ p = bestF (mostT (offT X N) n k q a s σ) a s i)) → ∃ M', Fr scr M M' ∧ f_X9_mostBy_13 fu f (nI q) (nI h) (nI s) (nI k) y p.1 p.2 (nI (a + s * i)) (lay 4000 51 τ M) = some (ansB y (bestF (mostT (offT X N) n k q a s σ) a s c), lay 4000 51 τ M') := by
  have hn := hk.2.1
  intro f
  induction f with
  | zero => intro i _ _ _ h; omega
  | succ f ih =>
    intro i p M hi hf2 hM hp
    have hsi : s * i ≤ 5 * 61 := Nat.mul_le_mul hs (by omega)
    rw [f_X9_mostBy_13]
    by_cases he : i = c
    · subst he
      rcases hp with ⟨h0, -⟩ | ⟨-, hp⟩
      · omega
      · rw [if_pos (by
          have := (hhc i (Nat.le_refl _)).mpr rfl
          rw [Int32.lt_iff_toInt_lt, nI_toInt (by omega), nI_toInt (by omega)]
          omega), hp]
        refine ⟨M, fr_nil, ?_⟩
        unfold ansB
        split <;> rfl
    · have hni : ¬ nI h < nI (a + s * i) := by
        have hx : ¬ h < a + s * i := fun z => he ((hhc i hi).mp z)
        rw [Int32.lt_iff_toInt_lt, nI_toInt (by omega), nI_toInt (by omega)]
        omega
      rw [if_neg hni, inb_nI (show q < 1423 by omega) (by decide), chk_t, nI_clamp (by omega), show 4000 + 1500 * 0 + q = 4000 + q from rfl, lay_upd hq, seqM_eq]
      have l3 : Lv n (upd σ q (nI (a + s * i))) (upd τ q (nI (a + s * i))) := hl.up
      obtain ⟨M2, s1, e2⟩ := mrun1 (ρ := upd τ q (nI (a + s * i))) hf hM (show k ≤ 200 by omega) (by decide) (l3.rok (hr i (by omega))) (by rw [pk_un (fun z => hq1 z.symm), hl.l (by decide)]; exact h15)
      have L := l3.tenths (off := offT X N) k
      have hM2 := hM.sm s1
      have hb2 := fun ρ => hM2.back (fu := fu) (ρ := ρ) (by omega)
      rw [e2, doV_some, show 4000 + 1500 * 0 + (5 : Int32).toNatClampNeg = 4005 by decide, lm_5, L.l (by decide), seqM_eq, hb2, doV_some]
      unfold f_X9_mostBy_57 f_X9_mostBy_65
      have enx : nI (a + s * i) + nI s = nI (a + s * (i + 1)) := by rw [nI_add, Nat.mul_succ, Nat.add_assoc]
      simp only [seqM_eq, enx]
      show ∃ M', Fr scr M M' ∧ (if p.1 < 0 then f_X9_mostBy_13 fu f (nI q) (nI h) (nI s) (nI k) y (nI (a + s * i)) (mostT (offT X N) n k q a s σ i) _ _ else if mostT (offT X N) n k q a s σ i ≤ p.2 then _ else _) = _
      obtain ⟨l, hl9, el⟩ := mostT_nI (off := offT X N) hk6 (hr i (by omega))
      rcases hp with ⟨h0, hp⟩ | ⟨h1, hp⟩
      · subst h0
        have hb : bestF (mostT (offT X N) n k q a s σ) a s 1 = (nI (a + s * 0), mostT (offT X N) n k q a s σ 0) := by
          have hx : ¬ mostT (offT X N) n k q a s σ 0 ≤ (-1 : Int32) := by
            rw [el, Int32.le_iff_toInt_le, nI_toInt (by omega), show (-1 : Int32).toInt = -1 by decide]
            omega
          show stepB (0, -1) _ _ = _
          unfold stepB
          exact if_neg hx
        obtain ⟨M3, f3, e3⟩ := ih 1 (nI (a + s * 0), mostT (offT X N) n k q a s σ 0) M2 (by omega) (by omega) hM2 (Or.inr ⟨by decide, hb.symm⟩)
        rw [if_pos (by rw [hp]; decide)]
        exact ⟨M3, fr_tr (fr_sm s1) f3, e3⟩
      · obtain ⟨j, hj, ej⟩ := bestF_1 (L := mostT (offT X N) n k q a s σ) ha hs i (by omega)
        have hneg : ¬ p.1 < 0 := by
          rw [hp, ej]
          intro z
          have := Int32.lt_iff_toInt_lt.mp z
          rw [nI_toInt (by omega)] at this
          have : (0 : Int32).toInt = 0 := rfl
          omega
        rw [if_neg hneg]
        obtain ⟨M3, f3, e3⟩ := ih (i + 1) (stepB p (nI (a + s * i)) (mostT (offT X N) n k q a s σ i)) M2 (by omega) (by omega) hM2 (Or.inr ⟨by omega, by rw [hp]; rfl⟩)
        refine ⟨M3, fr_tr (fr_sm s1) f3, ?_⟩
        rw [← e3]
        unfold stepB
        split <;> rfl
theorem mmost_ev {y : Int32} {q a s c h : Nat} (hs : s ≤ 5) (ha : a ≤ 5) (hc1 : 1 ≤ c) (hc60 : c ≤ 61) (hq : q < 51) (hq1 : q ≠ 15) (hh : h ≤ 300) (hhc : ∀ i, i ≤ c → (h < a + s * i ↔ i = c)) (hf : 200 < fu) (hk : ROK 9999 n σ) (hr : ∀ i, i < c → ROK 9999 n (upd σ q (nI (a + s * i)))) (h15 : σ 15 = nI N) (hl : Lv n σ τ) (hk6 : k ≤ 60) (hN : N ≤ 14) (hv : TxV X N) (hM : TxM 4000 X N M) : ∃ M', Fr scr M M' ∧ f_X9_mostBy fu (nI q) (nI a) (nI h) (nI s) (nI k) y (lay 4000 51 τ M) = some (ansB y (bestF (mostT (offT X N) n k q a s σ) a s c), lay 4000 51 τ M') := by
  obtain ⟨M1, f1, mm, e1⟩ := mthink (fu := fu) (τ := τ) (by omega) hN hv hM
  obtain ⟨M2, f2, e2⟩ := mmost_L (y := y) hs ha hc1 hc60 hq hq1 hh hhc hf hk hr h15 hl hk6 fu 0 (-1, 0) M1 (by omega) (by omega) mm (Or.inl ⟨rfl, rfl⟩)
  refine ⟨M2, fr_tr f1 f2, ?_⟩
  unfold f_X9_mostBy
  rw [e1, doV_some]
  exact e2
theorem clear_ev : ∃ M', Fr scr M M' ∧ CB (0, -1) M' ∧ f_X0_clear fu M = some M' := by
  refine ⟨upd (upd M 272 0) 273 (-1), fun k hk => ?_, ⟨by rw [pk_un (by decide), pk_us], pk_us⟩, rfl⟩
  have := hk (272, 274) (by decide)
  simp only at this
  rw [pk_un (by omega), pk_un (by omega)]
abbrev asked (x y : Int32) : Prop := inR x 1 60 ∧ inR y 0 1
theorem casked_ev {y : Int32} : f_X8_isBestAsked fu x y M = some (bz (asked x y), M) := by
  unfold f_X8_isBestAsked
  by_cases a : inR x 1 60
  · by_cases b : inR y 0 1
    · simp only [within_ev, bz_t a, bz_t b, doI_some, doV_some, seqM_eq, chk_t, show ¬ (1 : Int32) = 0 by decide, if_false, bz_t (show asked x y from ⟨a, b⟩)]
    · simp only [within_ev, bz_t a, bz_f b, doI_some, doV_some, seqM_eq, chk_t, show ¬ (1 : Int32) = 0 by decide, if_false, if_true, bz_f (show ¬ asked x y from fun z => b z.2)]
  · simp only [within_ev, bz_f a, doI_some, doV_some, seqM_eq, chk_t, if_true, bz_f (show ¬ asked x y from fun z => a z.1)]
theorem masked_ev {y : Int32} : f_X9_areAsked fu x y M = some (bz (asked x y), M) := by
  unfold f_X9_areAsked
  by_cases a : inR x 1 60
  · by_cases b : inR y 0 1
    · simp only [in_ev, bz_t a, bz_t b, doI_some, doV_some, seqM_eq, chk_t, show ¬ (1 : Int32) = 0 by decide, if_false, bz_t (show asked x y from ⟨a, b⟩)]
    · simp only [in_ev, bz_t a, bz_f b, doI_some, doV_some, seqM_eq, chk_t, show ¬ (1 : Int32) = 0 by decide, if_false, if_true, bz_f (show ¬ asked x y from fun z => b z.2)]
  · simp only [in_ev, bz_f a, doI_some, doV_some, seqM_eq, chk_t, if_true, bz_f (show ¬ asked x y from fun z => a z.1)]
theorem nI_ltP {a b : Nat} (ha : a < 2 ^ 31) (hb : b < 2 ^ 31) : (nI a < nI b) = (a < b) := propext (by
  rw [Int32.lt_iff_toInt_lt, nI_toInt ha, nI_toInt hb]
  omega)
theorem op_device (hf : 200 < fu) (hI : Inv m) : Op (f_X8_device fu x1 x2) (f_X9_device fu x1 x2) m := by
  refine op_think hI (fun n N σ X hc hN hv hk hw => ?_)
  by_cases hA : asked x1 x2
  · obtain ⟨k, -, k6, rfl⟩ := inR_nI (a := 1) (b := 60) (by decide) (by decide) hA.1
    have hr : ∀ i, i < 40 → ROK 9999 n (upd σ 3 (nI (5 + 5 * i))) := fun i _ => hk.upd_low (by decide) (by decide) (by decide) (by decide) (by decide) (by decide) (by decide)
    refine ⟨ansB x2 (bestF (mostT (offT X N) n k 3 5 5 σ) 5 5 40), fun M hM => ?_, fun τ hτ M hM => ?_⟩
    · obtain ⟨M1, f1, b1, e1⟩ := clear_ev (fu := fu) (M := M)
      obtain ⟨M2, f2, e2⟩ := cmost_L (F := fun f x M => f_X8_device_20 fu f (nI k) x2 x M) (y := x2) (q := 3) (a := 5) (s := 5) (c := 40) (by decide) (by decide) (by decide) (by decide) (by decide) (fun f i M hi => by
        show f_X8_device_20 fu (f + 1) (nI k) x2 (nI (5 + 5 * i)) M = _
        rw [f_X8_device_20]
        have hlt : ∀ j, j < 2 ^ 31 → (((200 : Int32) < nI j) = (200 < j)) := fun j hj => nI_ltP (a := 200) (by decide) hj
        by_cases he : i = 40
        · rw [if_pos ((hlt _ (by omega)).mpr (by omega)), if_pos he]
        · rw [if_neg (fun z => by have := (hlt _ (by omega)).mp z; omega), if_neg he]
          simp only [seqM_eq, show nI (5 + 5 * i) + 5 = nI (5 + 5 * (i + 1)) from nI_add _ 5]) hf hk hr (hc.2 0 (by decide)) k6 fu 0 M1 (by decide) (by omega) (hM.fr f1) b1
      refine ⟨M2, fr_tr f1 f2, ?_⟩
      unfold f_X8_device
      simp only [casked_ev, bz_t hA, doI_some, doV_some, seqM_eq, chk_t, show ¬ (1 : Int32) = 0 by decide, if_false, e1]
      exact e2
    · obtain ⟨M2, f2, e2⟩ := mmost_ev (fu := fu) (y := x2) (q := 3) (a := 5) (s := 5) (c := 40) (h := 200) (by decide) (by decide) (by decide) (by decide) (by decide) (by decide) (by decide) (fun i hi => by omega) hf hk hr hc.1 hτ k6 hN hv hM
      refine ⟨M2, f2, ?_⟩
      unfold f_X9_device
      simp only [masked_ev, bz_t hA, doI_some, doV_some, seqM_eq, chk_t, show ¬ (1 : Int32) = 0 by decide, if_false]
      rw [show (3 : Int32) = nI 3 from rfl, show (5 : Int32) = nI 5 from rfl, show (200 : Int32) = nI 200 from rfl, e2, doI_some]
  · refine think_same (-1000000001) (fun M hM => ?_) (fun τ hτ M => ?_)
    · unfold f_X8_device
      simp only [casked_ev, bz_f hA, doI_some, doV_some, seqM_eq, chk_t, if_true]
    · unfold f_X9_device
      simp only [masked_ev, bz_f hA, doI_some, doV_some, seqM_eq, chk_t, if_true]
theorem op_filler (hf : 200 < fu) (hI : Inv m) : Op (f_X8_filler fu x1 x2) (f_X9_filler fu x1 x2) m := by
  refine op_think hI (fun n N σ X hc hN hv hk hw => ?_)
  by_cases hA : asked x1 x2
  · obtain ⟨k, -, k6, rfl⟩ := inR_nI (a := 1) (b := 60) (by decide) (by decide) hA.1
    have hr : ∀ i, i < 61 → ROK 9999 n (upd σ 4 (nI (0 + 1 * i))) := fun i _ => hk.upd_low (by decide) (by decide) (by decide) (by decide) (by decide) (by decide) (by decide)
    refine ⟨ansB x2 (bestF (mostT (offT X N) n k 4 0 1 σ) 0 1 61), fun M hM => ?_, fun τ hτ M hM => ?_⟩
    · obtain ⟨M1, f1, b1, e1⟩ := clear_ev (fu := fu) (M := M)
      obtain ⟨M2, f2, e2⟩ := cmost_L (F := fun f x M => f_X8_filler_20 fu f (nI k) x2 x M) (y := x2) (q := 4) (a := 0) (s := 1) (c := 61) (by decide) (by decide) (by decide) (by decide) (by decide) (fun f i M hi => by
        show f_X8_filler_20 fu (f + 1) (nI k) x2 (nI (0 + 1 * i)) M = _
        rw [f_X8_filler_20]
        have hlt : ∀ j, j < 2 ^ 31 → (((60 : Int32) < nI j) = (60 < j)) := fun j hj => nI_ltP (a := 60) (by decide) hj
        by_cases he : i = 61
        · rw [if_pos ((hlt _ (by omega)).mpr (by omega)), if_pos he]
        · rw [if_neg (fun z => by have := (hlt _ (by omega)).mp z; omega), if_neg he]
          simp only [seqM_eq, show nI (0 + 1 * i) + 1 = nI (0 + 1 * (i + 1)) from nI_1 _]) hf hk hr (hc.2 0 (by decide)) k6 fu 0 M1 (by decide) (by omega) (hM.fr f1) b1
      refine ⟨M2, fr_tr f1 f2, ?_⟩
      unfold f_X8_filler
      simp only [casked_ev, bz_t hA, doI_some, doV_some, seqM_eq, chk_t, show ¬ (1 : Int32) = 0 by decide, if_false, e1]
      exact e2
    · obtain ⟨M2, f2, e2⟩ := mmost_ev (fu := fu) (y := x2) (q := 4) (a := 0) (s := 1) (c := 61) (h := 60) (by decide) (by decide) (by decide) (by decide) (by decide) (by decide) (by decide) (fun i hi => by omega) hf hk hr hc.1 hτ k6 hN hv hM
      refine ⟨M2, f2, ?_⟩
      unfold f_X9_filler
      simp only [masked_ev, bz_t hA, doI_some, doV_some, seqM_eq, chk_t, show ¬ (1 : Int32) = 0 by decide, if_false]
      rw [show (4 : Int32) = nI 4 from rfl, show (0 : Int32) = nI 0 from rfl, show (1 : Int32) = nI 1 from rfl, show (60 : Int32) = nI 60 from rfl, e2, doI_some]
  · refine think_same (-1000000001) (fun M hM => ?_) (fun τ hτ M => ?_)
    · unfold f_X8_filler
      simp only [casked_ev, bz_f hA, doI_some, doV_some, seqM_eq, chk_t, if_true]
    · unfold f_X9_filler
      simp only [masked_ev, bz_f hA, doI_some, doV_some, seqM_eq, chk_t, if_true]
theorem op_patience (hf : 200 < fu) (hI : Inv m) : Op (f_X8_patience fu x1 x2 x3) (f_X9_patience fu x1 x2 x3) m := by
  refine op_think hI (fun n N σ X hc hN hv hk hw => ?_)
  have hn := hk.2.1
  have ex : ∀ τ, Lv n σ τ → τ 1 = nI n := fun τ hτ => (hτ.l (by decide)).trans hk.1
  by_cases hV : isVp n x1
  · by_cases hA : asked x2 x3
    · obtain ⟨k, -, k6, rfl⟩ := inR_nI (a := 1) (b := 60) (by decide) (by decide) hA.1
      obtain ⟨v, hvn, rfl⟩ := isVp_of hn hV
      have hv5 : v < 5 := by omega
      have hp := ps_lt hv5 (show 1 < 7 by decide)
      have hp1 := @ps_ge v 1
      have hr : ∀ i, i < 60 → ROK 9999 n (upd σ (ps v 1) (nI (1 + 1 * i))) := fun i _ => hk.wait hvn (by omega) (by omega)
      refine ⟨ansB x3 (bestF (mostT (offT X N) n k (ps v 1) 1 1 σ) 1 1 60), fun M hM => ?_, fun τ hτ M hM => ?_⟩
      · obtain ⟨M1, f1, b1, e1⟩ := clear_ev (fu := fu) (M := M)
        obtain ⟨M2, f2, e2⟩ := cmost_L (F := fun f x M => f_X8_patience_32 fu f (nI v) (nI k) x3 x M) (y := x3) (q := ps v 1) (a := 1) (s := 1) (c := 60) (by decide) (by decide) (by decide) hp (by omega) (fun f i M hi => by
          show f_X8_patience_32 fu (f + 1) (nI v) (nI k) x3 (nI (1 + 1 * i)) M = _
          rw [f_X8_patience_32]
          have hlt : ∀ j, j < 2 ^ 31 → (((60 : Int32) < nI j) = (60 < j)) := fun j hj => nI_ltP (a := 60) (by decide) hj
          by_cases he : i = 60
          · rw [if_pos ((hlt _ (by omega)).mpr (by omega)), if_pos he]
          · rw [if_neg (fun z => by have := (hlt _ (by omega)).mp z; omega), if_neg he]
            simp only [seqM_eq, inb_nI hv5 (show 5 < 2 ^ 31 by decide), nI_clamp (show v < 2 ^ 31 by omega), chk_t, vf_ps, show nI (1 + 1 * i) + 1 = nI (1 + 1 * (i + 1)) from nI_1 _]) hf hk hr (hc.2 0 (by decide)) k6 fu 0 M1 (by decide) (by omega) (hM.fr f1) b1
        refine ⟨M2, fr_tr f1 f2, ?_⟩
        unfold f_X8_patience
        simp only [chasM hM hk, bz_t hV, casked_ev, bz_t hA, doI_some, doV_some, seqM_eq, chk_t, show ¬ (1 : Int32) = 0 by decide, if_false, e1]
        exact e2
      · obtain ⟨M2, f2, e2⟩ := mmost_ev (fu := fu) (y := x3) (q := ps v 1) (a := 1) (s := 1) (c := 60) (h := 60) (by decide) (by decide) (by decide) (by decide) hp (by omega) (by decide) (fun i hi => by omega) hf hk hr hc.1 hτ k6 hN hv hM
        refine ⟨M2, f2, ?_⟩
        have e : 16 + 7 * nI v + 1 = nI (ps v 1) := ix_ps (j := 1)
        unfold f_X9_patience
        simp only [misV_ev hn (ex τ hτ), bz_t hV, masked_ev, bz_t hA, doI_some, doV_some, seqM_eq, chk_t, show ¬ (1 : Int32) = 0 by decide, if_false, e]
        rw [show (1 : Int32) = nI 1 from rfl, show (60 : Int32) = nI 60 from rfl, e2, doI_some]
    · refine think_same (-1000000001) (fun M hM => ?_) (fun τ hτ M => ?_)
      · unfold f_X8_patience
        simp only [chasM hM hk, bz_t hV, casked_ev, bz_f hA, doI_some, doV_some, seqM_eq, chk_t, show ¬ (1 : Int32) = 0 by decide, if_false, if_true]
      · unfold f_X9_patience
        simp only [misV_ev hn (ex τ hτ), bz_t hV, masked_ev, bz_f hA, doI_some, doV_some, seqM_eq, chk_t, show ¬ (1 : Int32) = 0 by decide, if_false, if_true]
  · refine think_same (-1000000001) (fun M hM => ?_) (fun τ hτ M => ?_)
    · unfold f_X8_patience
      simp only [chasM hM hk, bz_f hV, doI_some, doV_some, seqM_eq, chk_t, if_true]
    · unfold f_X9_patience
      simp only [misV_ev hn (ex τ hτ), bz_f hV, doI_some, doV_some, seqM_eq, chk_t, if_true]
theorem op_becomes (hf : 200 < fu) (hI : Inv m) : Op (f_X8_becomes fu x1 x2 x3) (f_X9_becomes fu x1 x2 x3) m := by
  refine op_think hI (fun n N σ X hc hN hv hk hw => ?_)
  have hn := hk.2.1
  have ex : ∀ τ, Lv n σ τ → τ 1 = nI n := fun τ hτ => (hτ.l (by decide)).trans hk.1
  by_cases hV : isVp n x1
  · by_cases hA : asked x2 x3
    · obtain ⟨k, -, k6, rfl⟩ := inR_nI (a := 1) (b := 60) (by decide) (by decide) hA.1
      obtain ⟨v, hvn, rfl⟩ := isVp_of hn hV
      have hv5 : v < 5 := by omega
      have hp := ps_lt hv5 (show 0 < 7 by decide)
      have hp1 := @ps_ge v 0
      have hr : ∀ i, i < 6 → ROK 9999 n (upd σ (ps v 0) (nI (0 + 1 * i))) := fun i _ => hk.kind hvn (by omega)
      refine ⟨ansB x3 (bestF (mostT (offT X N) n k (ps v 0) 0 1 σ) 0 1 6), fun M hM => ?_, fun τ hτ M hM => ?_⟩
      · obtain ⟨M1, f1, b1, e1⟩ := clear_ev (fu := fu) (M := M)
        obtain ⟨M2, f2, e2⟩ := cmost_L (F := fun f x M => f_X8_becomes_32 fu f (nI v) (nI k) x3 x M) (y := x3) (q := ps v 0) (a := 0) (s := 1) (c := 6) (by decide) (by decide) (by decide) hp (by omega) (fun f i M hi => by
          show f_X8_becomes_32 fu (f + 1) (nI v) (nI k) x3 (nI (0 + 1 * i)) M = _
          rw [f_X8_becomes_32]
          have hlt : ∀ j, j < 2 ^ 31 → (((5 : Int32) < nI j) = (5 < j)) := fun j hj => nI_ltP (a := 5) (by decide) hj
          by_cases he : i = 6
          · rw [if_pos ((hlt _ (by omega)).mpr (by omega)), if_pos he]
          · rw [if_neg (fun z => by have := (hlt _ (by omega)).mp z; omega), if_neg he]
            simp only [seqM_eq, inb_nI hv5 (show 5 < 2 ^ 31 by decide), nI_clamp (show v < 2 ^ 31 by omega), chk_t, vf_ps, show nI (0 + 1 * i) + 1 = nI (0 + 1 * (i + 1)) from nI_1 _]) hf hk hr (hc.2 0 (by decide)) k6 fu 0 M1 (by decide) (by omega) (hM.fr f1) b1
        refine ⟨M2, fr_tr f1 f2, ?_⟩
        unfold f_X8_becomes
        simp only [chasM hM hk, bz_t hV, casked_ev, bz_t hA, doI_some, doV_some, seqM_eq, chk_t, show ¬ (1 : Int32) = 0 by decide, if_false, e1]
        exact e2
      · obtain ⟨M2, f2, e2⟩ := mmost_ev (fu := fu) (y := x3) (q := ps v 0) (a := 0) (s := 1) (c := 6) (h := 5) (by decide) (by decide) (by decide) (by decide) hp (by omega) (by decide) (fun i hi => by omega) hf hk hr hc.1 hτ k6 hN hv hM
        refine ⟨M2, f2, ?_⟩
        unfold f_X9_becomes
        simp only [misV_ev hn (ex τ hτ), bz_t hV, masked_ev, bz_t hA, doI_some, doV_some, seqM_eq, chk_t, show ¬ (1 : Int32) = 0 by decide, if_false, ix_ps0]
        rw [show (0 : Int32) = nI 0 from rfl, show (1 : Int32) = nI 1 from rfl, show (5 : Int32) = nI 5 from rfl, e2, doI_some]
    · refine think_same (-1000000001) (fun M hM => ?_) (fun τ hτ M => ?_)
      · unfold f_X8_becomes
        simp only [chasM hM hk, bz_t hV, casked_ev, bz_f hA, doI_some, doV_some, seqM_eq, chk_t, show ¬ (1 : Int32) = 0 by decide, if_false, if_true]
      · unfold f_X9_becomes
        simp only [misV_ev hn (ex τ hτ), bz_t hV, masked_ev, bz_f hA, doI_some, doV_some, seqM_eq, chk_t, show ¬ (1 : Int32) = 0 by decide, if_false, if_true]
  · refine think_same (-1000000001) (fun M hM => ?_) (fun τ hτ M => ?_)
    · unfold f_X8_becomes
      simp only [chasM hM hk, bz_f hV, doI_some, doV_some, seqM_eq, chk_t, if_true]
    · unfold f_X9_becomes
      simp only [misV_ev hn (ex τ hτ), bz_f hV, doI_some, doV_some, seqM_eq, chk_t, if_true]
end MOST
