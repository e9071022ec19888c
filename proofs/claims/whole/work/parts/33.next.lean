/-! PURE: next, hole, apart -/
section NEXT
variable {fu n N v k B : Nat} {σ τ ρ : Row} {m M M' : Mem} {X : TxS} {x x1 x2 x3 : Int32}
theorem tenthsS_snoc {off : Off} : ∀ (k : Nat) (σ : Row), tenthsS off n 1 (tenthsS off n k σ) = tenthsS off n (k + 1) σ := by
  intro k
  induction k with
  | zero => intro σ; rfl
  | succ k ih => intro σ; exact ih (tenthS off n σ)
theorem tenthsS_snoc' {off : Off} (k : Nat) (σ : Row) : tenthS off n (tenthsS off n k σ) = tenthsS off n (k + 1) σ := tenthsS_snoc k σ
def fstN (a b : Nat → Int32) : Nat → Nat → Int32
  | _, 0 => -1
  | i, c + 1 => if a i ≤ b i then fstN a b (i + 1) c else nI i
theorem cfirst_L (hc : CM X N σ M) (hk : ROK 9999 n σ) (hr : ρ 1 = nI n) {a b : Nat → Int32} (ha : ∀ v, v < n → ρ (ps v 6) = a v) (hb : ∀ v, v < n → σ (ps v 6) = b v) : ∀ (f i : Nat), i ≤ n → n - i < f → f_X4_firstWhoSaidMore_2 fu f 1 0 (nI i) (lay (70 * 1) 54 ρ M) = some (fstN a b i (n - i), lay (70 * 1) 54 ρ M) := by
  have hn := hk.2.1
  have e0 : lay (70 * 1) 54 ρ M (sf 0 1) = nI n := by rw [lay_out (by unfold sf; omega)]; exact hc.e1 hk
  intro f
  induction f with
  | zero => intro i _ h; omega
  | succ f ih =>
    intro i hi hf
    rw [f_X4_firstWhoSaidMore_2, lc_get (by decide), hr, e0]
    by_cases he : i = n
    · subst he
      rw [if_pos (nI_le (Nat.le_refl _) (by omega)), Nat.sub_self]
      rfl
    · have hlt : i < n := by omega
      have hi5 : i < 5 := by omega
      have ev : lay (70 * 1) 54 ρ M (vf (10 * 0 + i) 6) = b i := by
        rw [← hb i hlt, vf_ps, lay_out (by unfold sf ps; omega)]
        have := hc.2.2.1 (ps i 6) (by unfold ps; omega)
        rw [← this]
        congr 1
        unfold sf; omega
      rw [if_neg (nI_ge hlt (by omega)), if_neg (nI_ge hlt (by omega)), inb_nI hi5 (by decide), chk_t, chk_t, nI_clamp (by omega), lc_vget hi5 (by decide), ev, ha i hlt, show n - i = (n - (i + 1)) + 1 by omega, fstN]
      by_cases h : a i ≤ b i
      · rw [if_pos h, if_pos h, seqM_eq, nI_1]
        exact ih (i + 1) (by omega) (by omega)
      · rw [if_neg h, if_neg h]
theorem nI_pr {i : Nat} (h : 1 ≤ i) : nI i - 1 = nI (i - 1) := pk_sub (b := 1) h
theorem mbegun_L (hn : n ≤ 5) (hb0 : ∀ q, q < 51 → M (3100 + q) = τ q) {a b : Nat → Int32} (ha : ∀ v, v < n → ρ (ps v 6) = a v) (hb : ∀ v, v < n → τ (ps v 6) = b v) : ∀ (f i : Nat), i ≤ n → i < f → f_X9_hasBegun_11 fu f (fstN a b i (n - i)) (nI i - 1) (lay 4000 51 ρ M) = some (fstN a b 0 n, lay 4000 51 ρ M) := by
  intro f
  induction f with
  | zero => intro i _ h; omega
  | succ f ih =>
    intro i hi hf
    rw [f_X9_hasBegun_11]
    by_cases he : i = 0
    · subst he
      rw [if_pos (by decide)]
      rfl
    · have hi5 : i - 1 < 5 := by omega
      have hlt : i - 1 < n := by omega
      have e6 : 16 + 7 * nI (i - 1) + 6 = nI (ps (i - 1) 6) := ix_ps (j := 6)
      have hp : ps (i - 1) 6 < 51 := ps_lt hi5 (by decide)
      rw [nI_pr (by omega), if_neg (fun z => by
        have := Int32.lt_iff_toInt_lt.mp z
        rw [nI_toInt (by omega)] at this
        have : (0 : Int32).toInt = 0 := rfl
        omega), of_6 hi5, doI_some, e6, inb_nI hp (by decide), chk_t, nI_clamp (by omega), lay_out (by omega), hb0 _ hp, ha _ hlt, hb _ hlt]
      unfold f_X9_hasBegun_45
      have e7 : fstN a b (i - 1) (n - (i - 1)) = if a (i - 1) ≤ b (i - 1) then fstN a b i (n - i) else nI (i - 1) := by
        rw [show n - (i - 1) = (n - i) + 1 by omega, fstN, show i - 1 + 1 = i by omega]
      have ih' := ih (i - 1) (by omega) (by omega)
      rw [e7, Int32.sub_eq_add_neg] at ih'
      by_cases h : a (i - 1) ≤ b (i - 1)
      · rw [if_pos h, seqM_eq]
        rw [if_pos h] at ih'
        exact ih'
      · rw [if_neg h, seqM_eq]
        rw [if_neg h] at ih'
        exact ih'
theorem mbegun_ev (hf : 5 < fu) (hn : n ≤ 5) (hr : ρ 1 = nI n) (hb0 : ∀ q, q < 51 → M (3100 + q) = τ q) {a b : Nat → Int32} (ha : ∀ v, v < n → ρ (ps v 6) = a v) (hb : ∀ v, v < n → τ (ps v 6) = b v) : f_X9_hasBegun fu (lay 4000 51 ρ M) = some (fstN a b 0 n, lay 4000 51 ρ M) := by
  unfold f_X9_hasBegun
  rw [show 4000 + 1500 * 0 + (1 : Int32).toNatClampNeg = 4001 by decide, lm_1, hr, seqM_eq]
  have := mbegun_L (fu := fu) hn hb0 ha hb fu n (Nat.le_refl _) (by omega)
  rw [Nat.sub_self] at this
  exact this
def nextN (b : Nat → Int32) (x : Int32) : Nat → Nat → Int32
  | _, 0 => -1000000005
  | i, c + 1 => if b i < 0 then nextN b x (i + 1) c else if x = 0 then b i else nI i
def begT (off : Off) (n : Nat) (σ : Row) (i : Nat) : Int32 := fstN (fun v => tenthsS off n i σ (ps v 6)) (fun v => σ (ps v 6)) 0 n
theorem cnext_L (hf : 200 < fu) (hk : ROK 9999 n σ) (h51 : σ 51 = optI (lastO X.1 0 N)) {σ1 : Row} (l1 : Lv n σ σ1) (l2 : σ1 51 = σ 51) : ∀ (f i : Nat) (M : Mem), 1 ≤ i → i ≤ 201 → 201 - i < f → CM X N σ M → ∃ M', Fr scr M M' ∧ f_X8_next_25 fu f x1 (nI i) (lay (70 * 1) 54 (tenthsS (offT X N) n (i - 1) σ1) M) = some (nextN (begT (offT X N) n σ) x1 i (201 - i), M') := by
  have hn := hk.2.1
  intro f
  induction f with
  | zero => intro i _ _ _ h; omega
  | succ f ih =>
    intro i M h1 hi hf2 hM
    rw [f_X8_next_25]
    by_cases he : i = 201
    · subst he
      rw [if_pos (by decide)]
      exact ⟨_, fr_lay1, rfl⟩
    · rw [if_neg (by rw [show (200 : Int32) = nI 200 from rfl]; exact nI_nlt (by omega) (by decide))]
      have hr := tenthsS_ROK (off := offT X N) (i - 1) 9999 σ1 (by omega) (l1.rok hk)
      obtain ⟨M2, s1, e2⟩ := crun1 (k := 1) hf hM (by decide) (show 9999 + (i - 1) ≤ 20000 by omega) hr (by rw [tenthsS_o hn (by omega), l2, h51])
      rw [show (nI 1) = (1 : Int32) from rfl, tenthsS_snoc, show i - 1 + 1 = i by omega] at e2
      have L := l1.tenths (off := offT X N) i
      have hM2 := hM.fr (fr_sc s1)
      have ef := cfirst_L (fu := fu) (M := M2) (ρ := tenthsS (offT X N) n i σ1) (a := fun v => tenthsS (offT X N) n i σ (ps v 6)) (b := fun v => σ (ps v 6)) hM2 hk (by rw [tenthsS_o hn (Or.inl rfl), l1.l (by decide)]; exact hk.1) (fun v hv => L.f hv (by decide)) (fun v _ => rfl) fu 0 (Nat.zero_le _) (by omega)
      rw [e2, doV_some]
      unfold f_X4_firstWhoSaidMore
      rw [show nI 0 = (0 : Int32) from rfl] at ef
      rw [ef, doI_some, show 201 - i = (201 - (i + 1)) + 1 by omega, nextN]
      show ∃ M', Fr scr M M' ∧ (if begT (offT X N) n σ i < 0 then _ else _) = _
      by_cases hb : begT (offT X N) n σ i < 0
      · rw [if_pos hb, if_pos hb, seqM_eq, nI_1]
        obtain ⟨M3, f3, e3⟩ := ih (i + 1) M2 (by omega) (by omega) (by omega) hM2
        exact ⟨M3, fr_tr (fr_sc s1) f3, e3⟩
      · rw [if_neg hb, if_neg hb]
        refine ⟨_, fr_tr (fr_sc s1) (fr_lay1 (ρ := tenthsS (offT X N) n i σ1)), ?_⟩
        exact some_ite
theorem mnext_L (hf : 200 < fu) (hk : ROK 9999 n σ) (hl : Lv n σ τ) (h15 : σ 15 = nI N) : ∀ (f i : Nat) (M : Mem), i ≤ 200 → 200 - i < f → MM X N τ M → ∃ M', Fr scr M M' ∧ f_X9_next_18 fu f x1 (nI i) (lay 4000 51 (tenthsS (offT X N) n i τ) M) = some (nextN (begT (offT X N) n σ) x1 i (201 - i), lay 4000 51 τ M') := by
  have hn := hk.2.1
  intro f
  induction f with
  | zero => intro i _ _ h; omega
  | succ f ih =>
    intro i M hi hf2 hM
    have L := hl.tenths (off := offT X N) i
    have eb := mbegun_ev (fu := fu) (M := M) (ρ := tenthsS (offT X N) n i τ) (τ := τ) (a := fun v => tenthsS (offT X N) n i σ (ps v 6)) (b := fun v => σ (ps v 6)) (by omega) hn (by rw [tenthsS_o hn (Or.inl rfl), hl.l (by decide)]; exact hk.1) hM.2.2.1 (fun v hv => L.f hv (by decide)) (fun v hv => hl.f hv (by decide))
    have hb2 := hM.back (fu := fu) (ρ := tenthsS (offT X N) n i τ) (by omega)
    have e42 : f_X9_next_42 fu x1 (nI i) (lay 4000 51 (tenthsS (offT X N) n i τ) M) = some (if begT (offT X N) n σ i < 0 then -1000000005 else if x1 = 0 then begT (offT X N) n σ i else nI i, lay 4000 51 τ M) := by
      unfold f_X9_next_42
      rw [eb, doI_some, hb2, doV_some]
      show (if 0 ≤ begT (offT X N) n σ i then _ else _) = _
      by_cases hb : begT (offT X N) n σ i < 0
      · rw [if_neg (by rw [Int32.not_le]; exact hb), if_pos hb]
      · rw [if_pos (by rw [← Int32.not_lt]; exact hb), if_neg hb]
        exact some_ite
    rw [f_X9_next_18, show 201 - i = (200 - i) + 1 by omega, nextN]
    by_cases he : i = 200
    · subst he
      rw [if_pos (by decide), e42]
      exact ⟨M, fr_nil, rfl⟩
    · rw [if_neg (by rw [show (200 : Int32) = nI 200 from rfl]; exact nI_ge (by omega) (by decide)), eb, doI_some]
      show ∃ M', Fr scr M M' ∧ (if 0 ≤ begT (offT X N) n σ i then _ else _) = _
      by_cases hb : begT (offT X N) n σ i < 0
      · rw [if_neg (by rw [Int32.not_le]; exact hb), if_pos hb]
        have hr := tenthsS_ROK (off := offT X N) i 9999 τ (by omega) (hl.rok hk)
        obtain ⟨M2, s1, e2, -⟩ := mtenth_ok (fu := fu) (m := M) (by omega) (show 9999 + i < 90000 by omega) hr (offM_ev hM.1 (by omega) hM.2.1 hM.2.2.2) (by rw [tenthsS_o hn (by omega), hl.l (by decide)]; exact h15)
        rw [e2, doV_some, seqM_eq, nI_1, tenthsS_snoc']
        obtain ⟨M3, f3, e3⟩ := ih (i + 1) M2 (by omega) (by omega) (hM.sm s1)
        refine ⟨M3, fr_tr (fr_sm s1) f3, ?_⟩
        rw [e3, show 201 - (i + 1) = 200 - i by omega]
      · rw [if_pos (by rw [← Int32.not_lt]; exact hb), if_neg hb, e42, if_neg hb]
        exact ⟨M, fr_nil, rfl⟩
theorem fstN_self {a : Nat → Int32} : ∀ c i, fstN a a i c = -1 := by
  intro c
  induction c with
  | zero => intro i; rfl
  | succ c ih => intro i; rw [fstN, if_pos (Int32.le_refl _)]; exact ih (i + 1)
theorem op_next (hf : 200 < fu) (hI : Inv m) : Op (f_X8_next fu x1) (f_X9_next fu x1) m := by
  refine op_think hI (fun n N σ X hc hN hv hk hw => ?_)
  by_cases hA : inR x1 0 1
  · refine ⟨nextN (begT (offT X N) n σ) x1 1 200, fun M hM => ?_, fun τ hτ M hM => ?_⟩
    · obtain ⟨σ1, l1, l2, e1⟩ := cthink (fu := fu) (by omega) hM hk
      obtain ⟨M2, f2, e2⟩ := cnext_L (x1 := x1) hf hk (hc.2 0 (by decide)) l1 (l2 0 (by decide)) fu 1 M (by decide) (by decide) (by omega) hM
      refine ⟨M2, f2, ?_⟩
      unfold f_X8_next
      simp only [within_ev, bz_t hA, doI_some, doV_some, seqM_eq, chk_t, show ¬ (1 : Int32) = 0 by decide, if_false, e1]
      exact e2
    · obtain ⟨M1, f1, mm, e1⟩ := mthink (fu := fu) (τ := τ) (by omega) hN hv hM
      obtain ⟨M2, f2, e2⟩ := mnext_L (x1 := x1) hf hk hτ hc.1 fu 0 M1 (by decide) (by omega) mm
      refine ⟨M2, fr_tr f1 f2, ?_⟩
      unfold f_X9_next
      simp only [in_ev, bz_t hA, doI_some, doV_some, seqM_eq, chk_t, show ¬ (1 : Int32) = 0 by decide, if_false, e1]
      refine Eq.trans e2 ?_
      have : nextN (begT (offT X N) n σ) x1 0 201 = nextN (begT (offT X N) n σ) x1 1 200 := by
        rw [nextN, show begT (offT X N) n σ 0 = -1 from fstN_self n 0]
        rfl
      rw [this]
  · refine think_same (-1000000001) (fun M hM => ?_) (fun τ hτ M => ?_)
    · unfold f_X8_next
      simp only [within_ev, bz_f hA, doI_some, doV_some, seqM_eq, chk_t, if_true]
    · unfold f_X9_next
      simp only [in_ev, bz_f hA, doI_some, doV_some, seqM_eq, chk_t, if_true]
/-! hole -/
def holeN (h : Nat → Int32) (x : Int32) : Nat → Nat → Int32
  | _, 0 => -1000000005
  | i, c + 1 => if h i < x then holeN h x (i + 1) c else nI i
def sil (off : Off) (n : Nat) (σ : Row) (i : Nat) : Int32 := hearS n (tenthsS off n (i - 1) σ) 6
theorem chole_L (hf : 200 < fu) (hk : ROK 9999 n σ) (h51 : σ 51 = optI (lastO X.1 0 N)) {σ1 : Row} (l1 : Lv n σ σ1) (l2 : σ1 51 = σ 51) : ∀ (f i : Nat) (M : Mem), 1 ≤ i → i ≤ 201 → 201 - i < f → CM X N σ M → ∃ M', Fr scr M M' ∧ f_X8_hole_27 fu f x1 (nI i) (lay (70 * 1) 54 (tenthsS (offT X N) n (i - 1) σ1) M) = some (holeN (sil (offT X N) n σ) x1 i (201 - i), M') := by
  have hn := hk.2.1
  intro f
  induction f with
  | zero => intro i _ _ _ h; omega
  | succ f ih =>
    intro i M h1 hi hf2 hM
    rw [f_X8_hole_27]
    by_cases he : i = 201
    · subst he
      rw [if_pos (by decide)]
      exact ⟨_, fr_lay1, rfl⟩
    · rw [if_neg (by rw [show (200 : Int32) = nI 200 from rfl]; exact nI_nlt (by omega) (by decide))]
      have hr := tenthsS_ROK (off := offT X N) (i - 1) 9999 σ1 (by omega) (l1.rok hk)
      have L := l1.tenths (off := offT X N) (i - 1)
      obtain ⟨M2, s1, e1, e2⟩ := ctenth_ev (fu := fu) (t := 1) (m := M) (by omega) (show 9999 + (i - 1) < 90000 by omega) hr (offC_ev (by decide) hM.1 (by omega) hM.2.1 hM.2.2.2) (by rw [tenthsS_o hn (by omega), l2, h51])
      rw [tenthsS_snoc', show i - 1 + 1 = i by omega] at e2
      rw [e1, doV_some, lc_get (by decide), L.hear.l (show 6 < 16 by decide), show 201 - i = (201 - (i + 1)) + 1 by omega, holeN]
      show ∃ M', Fr scr M M' ∧ (if sil (offT X N) n σ i < x1 then _ else _) = _
      by_cases hb : sil (offT X N) n σ i < x1
      · rw [if_pos hb, if_pos hb, e2, doV_some, seqM_eq, nI_1]
        obtain ⟨M3, f3, e3⟩ := ih (i + 1) M2 (by omega) (by omega) (by omega) (hM.fr (fr_sc s1))
        exact ⟨M3, fr_tr (fr_sc s1) f3, e3⟩
      · rw [if_neg hb, if_neg hb]
        exact ⟨_, fr_lay1, rfl⟩
theorem mhole_L (hf : 210 < fu) (hk : ROK 9999 n σ) (hl : Lv n σ τ) (h15 : σ 15 = nI N) : ∀ (f i : Nat) (M : Mem), 1 ≤ i → i ≤ 201 → 201 - i < f → MM X N τ M → M 3001 = sil (offT X N) n σ i → ∃ M', Fr scr M M' ∧ f_X9_hole_25 fu f x1 (nI i) (lay 4000 51 (tenthsS (offT X N) n i τ) M) = some (holeN (sil (offT X N) n σ) x1 i (201 - i), lay 4000 51 τ M') := by
  have hn := hk.2.1
  intro f
  induction f with
  | zero => intro i _ _ _ h; omega
  | succ f ih =>
    intro i M h1 hi hf2 hM h3
    have hb2 := hM.back (fu := fu) (ρ := tenthsS (offT X N) n i τ) (by omega)
    rw [f_X9_hole_25]
    unfold f_X9_hole_50
    rw [hb2, doV_some]
    by_cases he : i = 201
    · subst he
      rw [if_pos (by decide), if_neg (by decide)]
      exact ⟨M, fr_nil, rfl⟩
    · rw [if_neg (by rw [show (200 : Int32) = nI 200 from rfl]; exact nI_nlt (by omega) (by decide)), lay_out (by omega), h3, if_pos (show nI i ≤ 200 from nI_le (b := 200) (by omega) (by decide)), show 201 - i = (201 - (i + 1)) + 1 by omega, holeN]
      by_cases hb : sil (offT X N) n σ i < x1
      · rw [if_neg (by rw [Int32.not_le]; exact hb), if_pos hb]
        have hr := tenthsS_ROK (off := offT X N) i 9999 τ (by omega) (hl.rok hk)
        obtain ⟨M2, s1, e2, e3⟩ := mtenth_ok (fu := fu) (m := M) (by omega) (show 9999 + i < 90000 by omega) hr (offM_ev hM.1 (by omega) hM.2.1 hM.2.2.2) (by rw [tenthsS_o hn (by omega), hl.l (by decide)]; exact h15)
        rw [e2, doV_some, seqM_eq, nI_1, tenthsS_snoc']
        obtain ⟨M3, f3, e3⟩ := ih (i + 1) M2 (by omega) (by omega) (by omega) (hM.sm s1) (by rw [e3]; exact (hl.tenths (off := offT X N) i).hear.l (by decide))
        exact ⟨M3, fr_tr (fr_sm s1) f3, e3⟩
      · rw [if_pos (by rw [← Int32.not_lt]; exact hb), if_neg hb]
        exact ⟨M, fr_nil, rfl⟩
theorem op_hole (hf : 210 < fu) (hI : Inv m) : Op (f_X8_hole fu x1) (f_X9_hole fu x1) m := by
  refine op_think hI (fun n N σ X hc hN hv hk hw => ?_)
  have hn := hk.2.1
  by_cases hA : inR x1 1 200
  · refine ⟨holeN (sil (offT X N) n σ) x1 1 200, fun M hM => ?_, fun τ hτ M hM => ?_⟩
    · obtain ⟨σ1, l1, l2, e1⟩ := cthink (fu := fu) (by omega) hM hk
      obtain ⟨M2, f2, e2⟩ := chole_L (fu := fu) (x1 := x1) (by omega) hk (hc.2 0 (by decide)) l1 (l2 0 (by decide)) fu 1 M (by decide) (by decide) (by omega) hM
      refine ⟨M2, f2, ?_⟩
      unfold f_X8_hole
      simp only [within_ev, bz_t hA, doI_some, doV_some, seqM_eq, chk_t, show ¬ (1 : Int32) = 0 by decide, if_false, e1]
      exact e2
    · obtain ⟨M1, f1, mm, e1⟩ := mthink (fu := fu) (τ := τ) (by omega) hN hv hM
      obtain ⟨g, rfl⟩ : ∃ g, fu = g + 1 := ⟨fu - 1, by omega⟩
      have fu1 : Fr [(3001, 3002)] M1 (upd M1 3001 0) := Fr.up
      have mm1 : MM X N τ (upd M1 3001 0) := mm.fr fu1 (by decide) (by decide)
      obtain ⟨M2, s1, e2, e3⟩ := mtenth_ok (fu := g + 1) (m := upd M1 3001 0) (by omega) (show 9999 < 90000 by omega) (hτ.rok hk) (offM_ev hN (by omega) hv mm1.2.2.2) (by rw [hτ.l (by decide)]; exact hc.1)
      obtain ⟨M3, f3, e4⟩ := mhole_L (x1 := x1) hf hk hτ hc.1 g 1 M2 (by decide) (by decide) (by omega) (mm1.sm s1) (by rw [e3]; exact hτ.hear.l (by decide))
      refine ⟨M3, fr_tr f1 (fr_tr (fu1.sub (by decide)) (fr_tr (fr_sm s1) f3)), ?_⟩
      unfold f_X9_hole
      simp only [in_ev, bz_t hA, doI_some, doV_some, seqM_eq, chk_t, show ¬ (1 : Int32) = 0 by decide, if_false, e1]
      rw [lay_updO (by omega), f_X9_hole_25, if_neg (by decide), lay_out (by omega), pk_us, if_neg (fun z => hA.1 (Int32.lt_of_le_of_lt z (by decide))), e2, doV_some]
      exact e4
  · refine think_same (-1000000001) (fun M hM => ?_) (fun τ hτ M => ?_)
    · unfold f_X8_hole
      simp only [within_ev, bz_f hA, doI_some, doV_some, seqM_eq, chk_t, if_true]
    · unfold f_X9_hole
      simp only [in_ev, bz_f hA, doI_some, doV_some, seqM_eq, chk_t, if_true]
end NEXT
