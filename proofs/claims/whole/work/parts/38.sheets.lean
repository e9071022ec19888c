/-! PURE: sheets: reads, mark, sheet, item, ask, rest -/
theorem isVp_nI {z : Nat} {x : Int32} (hz : z < 2 ^ 31) (h : isVp z x) : ∃ v, v < z ∧ x = nI v := by
  rcases pk_ix x (n := z) hz with q | q | q
  · exact absurd q h.1
  · exact absurd q h.2
  · exact q
theorem nI_vp {z k : Nat} (hz : z < 2 ^ 31) (h : k < z) : isVp z (nI k) := ⟨by rw [show (0 : Int32) = nI 0 from rfl, nI_ltP (by omega) (by decide)]; omega, nI_ge h (by omega)⟩
theorem inR_vp {z : Nat} {x : Int32} (hz : z ≤ 96) : inR x 0 (nI z - 1) ↔ isVp z x := by
  have e : (nI z - 1).toInt = (z : Int) - 1 := by
    by_cases h : z = 0
    · subst h; decide
    · rw [nI_pr (by omega), nI_toInt (by omega)]; omega
  unfold inR isVp
  rw [Int32.lt_iff_toInt_lt, Int32.lt_iff_toInt_lt, Int32.le_iff_toInt_le, e, nI_toInt (by omega)]
  omega
section SHEETS
variable {fu n N v k B s : Nat} {σ τ ρ : Row} {m M M' : Mem} {X : TxS} {x x1 x2 x3 : Int32}
theorem csheet_ev : f_X8_isSheet fu x m = some (bz (inR x 0 3), m) := by
  unfold f_X8_isSheet
  simp only [within_ev, doI_some, doV_some, seqM_eq, chk_t, isB_bz]
theorem msheet_ev : f_X9_isSheet fu x m = some (bz (inR x 0 3), m) := by
  unfold f_X9_isSheet
  simp only [in_ev, doI_some, doV_some, seqM_eq, chk_t, isB_bz]
theorem cslot_ev : f_X8_isSlot fu x m = some (bz (inR x 0 4), m) := by
  unfold f_X8_isSlot
  simp only [within_ev, doI_some, doV_some, seqM_eq, chk_t, isB_bz]
theorem mslot_ev : f_X9_isSlot fu x m = some (bz (inR x 0 4), m) := by
  unfold f_X9_isSlot
  simp only [in_ev, doI_some, doV_some, seqM_eq, chk_t, isB_bz]
theorem cmiss_ev : f_X2_isMissing fu s m = some (bz (m (hf s 0) = -1), m) := by
  unfold f_X2_isMissing
  by_cases h : m (hf s 0) = -1
  · rw [if_pos h, bz_t h]
  · rw [if_neg h, bz_f h]
theorem chasP_ev {z : Nat} (hz : m (hf s 1) = nI z) : f_X2_hasPlace fu s x m = some (bz (isVp z x), m) := by
  unfold f_X2_hasPlace
  rw [hz]
  by_cases a : x < 0
  · rw [if_pos a, bz_f (fun z => z.1 a)]
  · rw [if_neg a]
    by_cases b : nI z ≤ x
    · rw [if_pos b, bz_f (fun z => z.2 b)]
    · rw [if_neg b, bz_t ⟨a, b⟩]
theorem cnum_ev {z : Nat} (hz : m (hf s 1) = nI z) (hz2 : z ≤ 24) (hk : k < 2 ^ 31) : f_X2_isNumber fu s (nI k) m = some (bz (k < z ∧ ¬ m (500 + 24 * s + k) = -1000000005), m) := by
  unfold f_X2_isNumber
  by_cases h : k < z
  · simp only [chasP_ev hz, bz_t (nI_vp (by omega) h), doI_some, doV_some, seqM_eq, chk_t, show ¬ (1 : Int32) = 0 by decide, if_false, inb_nI (show k < 24 by omega) (show 24 < 2 ^ 31 by decide), nI_clamp hk]
    by_cases c : m (500 + 24 * s + k) = -1000000005
    · rw [if_pos c, bz_f (fun z => z.2 c)]
    · rw [if_neg c, bz_t ⟨h, c⟩]
  · have : ¬ isVp z (nI k) := fun q => by
      obtain ⟨v, hv, e⟩ := isVp_nI (by omega) q
      rw [nI_eqP hk (by omega)] at e
      omega
    simp only [chasP_ev hz, bz_f this, doI_some, doV_some, seqM_eq, chk_t, if_true, bz_f (show ¬ (k < z ∧ ¬ m (500 + 24 * s + k) = -1000000005) from fun q => h q.1)]
/-- what both know of sheet s -/
def Sh (m : Mem) (s z : Nat) : Prop := (m (hf s 0) = -1 ∨ m (hf s 0) = 0 ∨ m (hf s 0) = 1) ∧ m (3810 + s) = m (hf s 0) ∧ z ≤ 24 ∧ m (hf s 1) = nI z ∧ m (3820 + s) = nI z ∧ (∀ k, k < 24 → m (3830 + (24 * s + k)) = m (500 + 24 * s + k)) ∧ ∀ k, k < 24 → okCell (m (500 + 24 * s + k))
theorem Sh.sort {z : Nat} (h : Sh m s z) : m (hf s 0) = -1 ∨ m (hf s 0) = 0 ∨ m (hf s 0) = 1 := h.1
theorem Sh.msort {z : Nat} (h : Sh m s z) : m (3810 + s) = m (hf s 0) := h.2.1
theorem Sh.size {z : Nat} (h : Sh m s z) : z ≤ 24 := h.2.2.1
theorem Sh.csz {z : Nat} (h : Sh m s z) : m (hf s 1) = nI z := h.2.2.2.1
theorem Sh.msz {z : Nat} (h : Sh m s z) : m (3820 + s) = nI z := h.2.2.2.2.1
theorem Sh.cell {z : Nat} (h : Sh m s z) : ∀ k, k < 24 → m (3830 + (24 * s + k)) = m (500 + 24 * s + k) := h.2.2.2.2.2.1
theorem Sh.ok {z : Nat} (h : Sh m s z) : ∀ k, k < 24 → okCell (m (500 + 24 * s + k)) := h.2.2.2.2.2.2
theorem SHT.sh (h : SHT m) (hs : s < 4) : ∃ z, Sh m s z := by
  obtain ⟨a, b, ⟨z, c, d, e⟩, f⟩ := h s hs
  exact ⟨z, a, b, c, d, e, fun k hk => by rw [← Nat.add_assoc]; exact (f k hk).1, fun k hk => (f k hk).2⟩
theorem SHT.of (h : ∀ s, s < 4 → ∃ z, Sh m s z) : SHT m := fun s hs => by
  obtain ⟨z, a, b, c, d, e, f, g⟩ := h s hs
  exact ⟨a, b, ⟨z, c, d, e⟩, fun k hk => ⟨by rw [Nat.add_assoc]; exact f k hk, g k hk⟩⟩
theorem Sh.pos {z : Nat} (h : Sh m s z) : (0 ≤ m (3810 + s)) = ¬ m (hf s 0) = -1 := by
  rw [h.msort]
  rcases h.sort with e | e | e <;> rw [e] <;> decide
theorem Sh.neg {z : Nat} (h : Sh m s z) : (m (3810 + s) < 0) = (m (hf s 0) = -1) := by
  rw [h.msort]
  rcases h.sort with e | e | e <;> rw [e] <;> decide
theorem ix24 {a b : Nat} : 24 * nI a + nI b = nI (24 * a + b) := by
  rw [show (24 : Int32) = nI 24 from rfl, pk_mul, nI_add]
theorem Inv.parts (hI : Inv m) : ∃ (n N : Nat) (σ τ : Row) (X : TxS), RW n σ τ m ∧ CNT X N σ ∧ TXI X N m ∧ IMG X N m ∧ TAPE m ∧ SHT m ∧ SLT m ∧ WTG m ∧ KST m := hI
def readN (c w : Nat → Int32) (n : Nat) : Nat → Nat → Int32
  | _, 0 => -1000000005
  | i, r + 1 => if c i = -1000000005 then readN c w n (i + 1) r else if i < n then (if c i = w i then readN c w n (i + 1) r else nI i) else nI i
theorem RW.cv (h : RW n σ τ m) (hv : v < n) (hn : n ≤ 5) {j : Nat} (hj : j < 7) : m (vf (10 * 0 + v) j) = σ (ps v j) := by
  have := h.1 (ps v j) (by unfold ps; omega)
  rw [← this]
  congr 1
  unfold vf ps; omega
theorem chas0 (h : RW n σ τ m) : f_X4_has fu 0 x m = some (bz (isVp n x), m) := by
  have := chas_ev (fu := fu) (x := x) (m := m) h.2.2.2.1.1
  rw [← h.layC] at this
  exact this
theorem misV0 (h : RW n σ τ m) : f_X9_isVoice fu x m = some (bz (isVp n x), m) := by
  have := misV_ev (fu := fu) (x := x) (m := m) (σ := τ) h.2.2.2.1.2.1 ((h.2.2.1.l (by decide)).trans h.2.2.2.1.1)
  rw [← h.layM] at this
  exact this
theorem of0 (h : RW n σ τ m) (hv : v < n) {j : Nat} (hj : j < 7) : f_X9_of fu (nI v) (nI j) m = some (σ (ps v j), m) := by
  have hn := h.2.2.2.1.2.1
  have := of_ev (fu := fu) (σ := τ) (m := m) (show v < 5 by omega) hj
  rw [← h.layM, h.2.2.1.f hv hj] at this
  exact this
theorem creads_L {z : Nat} (h1 : RW n σ τ m) (hz : m (hf s 1) = nI z) (hz2 : z ≤ 24) : ∀ (f i : Nat), i ≤ z → z - i < f → f_X8_reads_29 fu f s (nI i) m = some (readN (fun k => m (500 + 24 * s + k)) (fun k => σ (ps k 6)) n i (z - i), m) := by
  have hn := h1.2.2.2.1.2.1
  intro f
  induction f with
  | zero => intro i _ h; omega
  | succ f ih =>
    intro i hi hf2
    rw [f_X8_reads_29, hz]
    by_cases he : i = z
    · subst he
      rw [if_pos (nI_le (Nat.le_refl _) (by omega)), Nat.sub_self]
      rfl
    · have hlt : i < z := by omega
      rw [if_neg (nI_ge hlt (by omega)), cnum_ev hz hz2 (by omega), doI_some, show z - i = (z - (i + 1)) + 1 by omega, readN]
      unfold f_X8_reads_79
      by_cases c : m (500 + 24 * s + i) = -1000000005
      · rw [bz_f (fun q => q.2 c), if_pos rfl, if_pos c, seqM_eq, nI_1]
        exact ih (i + 1) (by omega) (by omega)
      · rw [bz_t ⟨hlt, c⟩, if_neg (by decide), if_neg c, chas0 h1, doI_some]
        by_cases hv : i < n
        · rw [bz_t (nI_vp (by omega) hv), if_neg (by decide), inb_nI (show i < 24 by omega) (by decide), inb_nI (show i < 5 by omega) (by decide), chk_t, chk_t, nI_clamp (by omega), if_pos hv, h1.cv hv hn (by decide)]
          by_cases d : m (500 + 24 * s + i) = σ (ps i 6)
          · rw [if_pos d, if_pos d, seqM_eq, nI_1]
            exact ih (i + 1) (by omega) (by omega)
          · rw [if_neg d, if_neg d]
        · rw [bz_f (fun q => by
            obtain ⟨v, hv2, e⟩ := isVp_nI (by omega) q
            rw [nI_eqP (by omega) (by omega)] at e
            omega), if_pos rfl, if_neg hv]
theorem mreads_L {z : Nat} (h1 : RW n σ τ m) (hS : Sh m s z) (hs : s < 4) : ∀ (f i : Nat), i ≤ z → z - i < f → f_X9_reads_24 fu f (nI s) (nI i) m = some (readN (fun k => m (500 + 24 * s + k)) (fun k => σ (ps k 6)) n i (z - i), m) := by
  have hn := h1.2.2.2.1.2.1
  have hz2 := hS.size
  intro f
  induction f with
  | zero => intro i _ h; omega
  | succ f ih =>
    intro i hi hf2
    rw [f_X9_reads_24, inb_nI hs (by decide), chk_t, nI_clamp (by omega), hS.msz]
    by_cases he : i = z
    · subst he
      rw [if_pos (nI_le (Nat.le_refl _) (by omega)), Nat.sub_self]
      rfl
    · have hlt : i < z := by omega
      rw [if_neg (nI_ge hlt (by omega)), ix24, inb_nI (show 24 * s + i < 96 by omega) (by decide), chk_t, nI_clamp (by omega), hS.cell i (by omega), seqM_eq, show z - i = (z - (i + 1)) + 1 by omega, readN]
      unfold f_X9_reads_73
      by_cases c : m (500 + 24 * s + i) = -1000000005
      · rw [if_pos c, if_pos c, seqM_eq, nI_1]
        exact ih (i + 1) (by omega) (by omega)
      · rw [if_neg c, if_neg c, misV0 h1, doI_some]
        by_cases hv : i < n
        · rw [bz_t (nI_vp (by omega) hv), if_neg (by decide), if_pos hv, show (6 : Int32) = nI 6 from rfl, of0 h1 hv (by decide), doI_some]
          by_cases d : m (500 + 24 * s + i) = σ (ps i 6)
          · rw [if_pos d, if_pos d, seqM_eq, nI_1]
            exact ih (i + 1) (by omega) (by omega)
          · rw [if_neg d, if_neg d]
        · rw [bz_f (fun q => by
            obtain ⟨v, hv2, e⟩ := isVp_nI (by omega) q
            rw [nI_eqP (by omega) (by omega)] at e
            omega), if_pos rfl, if_neg hv]
theorem op_reads (hfu : 96 < fu) (hI : Inv m) : Op (f_X8_reads fu x1) (f_X9_reads fu x1) m := by
  have hI0 := hI
  obtain ⟨n, N, σ, τ, X, h1, h2, h3, h4, h5, h6, h7, h8, h9⟩ := hI
  by_cases hA : inR x1 0 3
  · obtain ⟨s, -, hs, rfl⟩ := inR_nI (a := 0) (b := 3) (by decide) (by decide) hA
    obtain ⟨z, hS⟩ := h6.sh (s := s) (by omega)
    by_cases hB : m (hf s 0) = -1
    · refine op_pure hI0 (-1000000011) ?_ ?_
      · unfold f_X8_reads
        simp only [csheet_ev, bz_t hA, doI_some, doV_some, seqM_eq, chk_t, show ¬ (1 : Int32) = 0 by decide, if_false, inb_nI (show s < 4 by omega) (show 4 < 2 ^ 31 by decide), nI_clamp (show s < 2 ^ 31 by omega), cmiss_ev, bz_t hB]
      · unfold f_X9_reads
        simp only [msheet_ev, bz_t hA, doI_some, doV_some, seqM_eq, chk_t, show ¬ (1 : Int32) = 0 by decide, if_false, inb_nI (show s < 4 by omega) (show 4 < 2 ^ 31 by decide), nI_clamp (show s < 2 ^ 31 by omega), hS.pos, hB, not_true_eq_false]
    · refine op_pure hI0 (readN (fun k => m (500 + 24 * s + k)) (fun k => σ (ps k 6)) n 0 z) ?_ ?_
      · unfold f_X8_reads
        simp only [csheet_ev, bz_t hA, doI_some, doV_some, seqM_eq, chk_t, show ¬ (1 : Int32) = 0 by decide, if_false, inb_nI (show s < 4 by omega) (show 4 < 2 ^ 31 by decide), nI_clamp (show s < 2 ^ 31 by omega), cmiss_ev, bz_f hB, if_true]
        have hz := hS.size
        exact creads_L h1 hS.csz hS.size fu 0 (Nat.zero_le _) (by omega)
      · unfold f_X9_reads
        simp only [msheet_ev, bz_t hA, doI_some, doV_some, seqM_eq, chk_t, show ¬ (1 : Int32) = 0 by decide, if_false, inb_nI (show s < 4 by omega) (show 4 < 2 ^ 31 by decide), nI_clamp (show s < 2 ^ 31 by omega), hS.pos, hB, not_false_eq_true, if_true]
        have hz := hS.size
        exact mreads_L h1 hS (by omega) fu 0 (Nat.zero_le _) (by omega)
  · refine op_pure hI0 (-1000000001) ?_ ?_
    · unfold f_X8_reads
      simp only [csheet_ev, bz_f hA, doI_some, doV_some, seqM_eq, chk_t, if_true]
    · unfold f_X9_reads
      simp only [msheet_ev, bz_f hA, doI_some, doV_some, seqM_eq, chk_t, if_true]
theorem ok16 : okCell (x.toInt16.toInt32) := by
  refine Or.inr ⟨?_, ?_⟩
  · rw [Int32.le_iff_toInt_le, Int16.toInt_toInt32]
    have := x.toInt16.le_toInt
    have e : (-99999 : Int32).toInt = -99999 := by decide
    omega
  · rw [Int32.le_iff_toInt_le, Int16.toInt_toInt32]
    have := x.toInt16.toInt_lt
    have e : (99999 : Int32).toInt = 99999 := by decide
    omega
theorem sht_cell (h : SHT m) (hs : s < 4) (hk : k < 24) {y : Int32} (hy : okCell y) : SHT (upd (upd m (500 + 24 * s + k) y) (3830 + (24 * s + k)) y) := by
  refine SHT.of (fun u hu => ?_)
  obtain ⟨z, a, b, c, d, e, f, g⟩ := h.sh hu
  have ho : ∀ q, q < 500 ∨ (3800 ≤ q ∧ q < 3830) → (upd (upd m (500 + 24 * s + k) y) (3830 + (24 * s + k)) y) q = m q := fun q hq => by rw [pk_un (by omega), pk_un (by omega)]
  have hc : ∀ j, j < 24 → (upd (upd m (500 + 24 * s + k) y) (3830 + (24 * s + k)) y) (500 + 24 * u + j) = if u = s ∧ j = k then y else m (500 + 24 * u + j) := fun j hj => by
    rw [pk_un (by omega)]
    by_cases q : u = s ∧ j = k
    · rw [q.1, q.2, pk_us, if_pos ⟨rfl, rfl⟩]
    · rw [pk_un (by omega), if_neg q]
  have hm : ∀ j, j < 24 → (upd (upd m (500 + 24 * s + k) y) (3830 + (24 * s + k)) y) (3830 + (24 * u + j)) = if u = s ∧ j = k then y else m (3830 + (24 * u + j)) := fun j hj => by
    by_cases q : u = s ∧ j = k
    · rw [q.1, q.2, pk_us, if_pos ⟨rfl, rfl⟩]
    · rw [pk_un (by omega), if_neg q, pk_un (by omega)]
  refine ⟨z, by rw [ho _ (by unfold hf; omega)]; exact a, by rw [ho _ (by omega), ho _ (by unfold hf; omega)]; exact b, c, by rw [ho _ (by unfold hf; omega)]; exact d, by rw [ho _ (by omega)]; exact e, fun j hj => ?_, fun j hj => ?_⟩
  · rw [hc j hj, hm j hj, f j hj]
  · rw [hc j hj]
    split
    · exact hy
    · exact g j hj
theorem bzm0 : bz ((0 : Int32) = -1) = 0 := bz_f (by decide)
theorem bzm1 : bz ((1 : Int32) = -1) = 0 := bz_f (by decide)
theorem op_mark (hI : Inv m) : Op (f_X8_mark fu x1 x2 x3) (f_X9_mark fu x1 x2 x3) m := by
  have hI0 := hI
  obtain ⟨n, N, σ, τ, X, h1, h2, h3, h4, h5, h6, h7, h8, h9⟩ := hI
  by_cases hA : inR x1 0 3
  · obtain ⟨s, -, hs, rfl⟩ := inR_nI (a := 0) (b := 3) (by decide) (by decide) hA
    obtain ⟨z, hS⟩ := h6.sh (s := s) (by omega)
    have hz := hS.size
    have i4 := inb_nI (show s < 4 by omega) (show 4 < 2 ^ 31 by decide)
    have c4 := nI_clamp (show s < 2 ^ 31 by omega)
    by_cases hB : m (hf s 0) = -1
    · refine op_pure hI0 (-1000000011) ?_ ?_
      · unfold f_X8_mark
        simp only [csheet_ev, bz_t hA, doI_some, doV_some, seqM_eq, chk_t, show ¬ (1 : Int32) = 0 by decide, if_false, i4, c4, cmiss_ev, bz_t hB]
      · unfold f_X9_mark
        simp only [msheet_ev, bz_t hA, doI_some, doV_some, seqM_eq, chk_t, show ¬ (1 : Int32) = 0 by decide, if_false, i4, c4, hS.pos, hB, not_true_eq_false]
    · by_cases hC : isVp z x2
      · have hC2 : inR x2 0 (nI z - 1) := (inR_vp (by omega)).mpr hC
        obtain ⟨k, hk, rfl⟩ := isVp_nI (by omega) hC
        have i24 := inb_nI (show k < 24 by omega) (show 24 < 2 ^ 31 by decide)
        have ck := nI_clamp (show k < 2 ^ 31 by omega)
        have i96 := inb_nI (show 24 * s + k < 96 by omega) (show 96 < 2 ^ 31 by decide)
        have ck2 := nI_clamp (show 24 * s + k < 2 ^ 31 by omega)
        have store : ∀ y, okCell y → Inv (upd (upd m (500 + 24 * s + k) y) (3830 + (24 * s + k)) y) := fun y hy => inv_sht hI0 (fun j hj => by
          have p1 := hj (500, 596) (by decide)
          have p2 := hj (3830, 3926) (by decide)
          simp only at p1 p2
          rw [pk_un (by omega), pk_un (by omega)]) (sht_cell h6 (by omega) (by omega) hy)
        have ms : ∀ y, (upd m (500 + 24 * s + k) y) (3810 + s) = m (hf s 0) := fun y => by rw [pk_un (by omega), hS.msort]
        have mz : ∀ y, (upd m (500 + 24 * s + k) y) (3820 + s) = nI z := fun y => by rw [pk_un (by omega), hS.msz]
        by_cases hD : m (hf s 0) = 0
        · by_cases hE : x3 = -1000000005
          · refine op_pure hI0 (-1000000012) ?_ ?_
            · unfold f_X8_mark
              simp only [csheet_ev, bz_t hA, doI_some, doV_some, seqM_eq, chk_t, show ¬ (1 : Int32) = 0 by decide, if_false, i4, c4, cmiss_ev, bzm0, bzm1, if_true, chasP_ev hS.csz, bz_t hC, hD, hE]
            · unfold f_X9_mark
              simp only [msheet_ev, bz_t hA, doI_some, doV_some, seqM_eq, chk_t, show ¬ (1 : Int32) = 0 by decide, if_false, i4, c4, hS.msort, hD, show (0 : Int32) ≤ 0 by decide, if_true, hS.msz, in_ev, bz_t hC2, hE]
          · refine ⟨1, upd m (500 + 24 * s + k) (x3.toInt16.toInt32), _, ?_, ?_, store (x3.toInt16.toInt32) (ok16 (x := x3))⟩
            · unfold f_X8_mark
              simp only [csheet_ev, bz_t hA, doI_some, doV_some, seqM_eq, chk_t, show ¬ (1 : Int32) = 0 by decide, if_false, i4, c4, cmiss_ev, bzm0, bzm1, if_true, chasP_ev hS.csz, bz_t hC, hD, hE, i24, ck]
            · unfold f_X9_mark f_X9_mark_60 f_X9_mark_92 f_X9_mark_117
              simp only [msheet_ev, bz_t hA, doI_some, doV_some, seqM_eq, chk_t, show ¬ (1 : Int32) = 0 by decide, if_false, i4, c4, ms, hD, show (0 : Int32) ≤ 0 by decide, if_true, mz, in_ev, bz_t hC2, hE, show ¬ (0 : Int32) = 1 by decide, ix24, i96, ck2]
        · have hD1 : m (hf s 0) = 1 := by
            rcases hS.sort with e | e | e
            · exact absurd e hB
            · exact absurd e hD
            · exact e
          by_cases hE : x3 = -1000000005
          · subst hE
            refine ⟨1, upd m (500 + 24 * s + k) (-1000000005), _, ?_, ?_, store _ (Or.inl rfl)⟩
            · unfold f_X8_mark f_X8_mark_92
              simp only [csheet_ev, bz_t hA, doI_some, doV_some, seqM_eq, chk_t, show ¬ (1 : Int32) = 0 by decide, if_false, i4, c4, cmiss_ev, bzm0, bzm1, if_true, chasP_ev hS.csz, bz_t hC, hD1, i24, ck]
            · unfold f_X9_mark f_X9_mark_60 f_X9_mark_92 f_X9_mark_117
              simp only [msheet_ev, bz_t hA, doI_some, doV_some, seqM_eq, chk_t, show ¬ (1 : Int32) = 0 by decide, if_false, i4, c4, ms, hD1, show (0 : Int32) ≤ 1 by decide, if_true, mz, in_ev, bz_t hC2, ix24, i96, ck2]
          · by_cases hF : inR x3 (-99999) 99999
            · refine ⟨1, upd m (500 + 24 * s + k) x3, _, ?_, ?_, store _ (Or.inr ⟨Int32.not_lt.mp hF.1, Int32.not_lt.mp hF.2⟩)⟩
              · unfold f_X8_mark f_X8_mark_92
                simp only [csheet_ev, bz_t hA, doI_some, doV_some, seqM_eq, chk_t, show ¬ (1 : Int32) = 0 by decide, if_false, i4, c4, cmiss_ev, bzm0, bzm1, if_true, chasP_ev hS.csz, bz_t hC, hD1, hE, within_ev, bz_t hF, i24, ck]
              · unfold f_X9_mark f_X9_mark_60 f_X9_mark_92 f_X9_mark_117
                simp only [msheet_ev, bz_t hA, doI_some, doV_some, seqM_eq, chk_t, show ¬ (1 : Int32) = 0 by decide, if_false, i4, c4, ms, hD1, show (0 : Int32) ≤ 1 by decide, if_true, mz, in_ev, bz_t hC2, hE, bz_t hF, ix24, i96, ck2]
            · refine op_pure hI0 (-1000000001) ?_ ?_
              · unfold f_X8_mark
                simp only [csheet_ev, bz_t hA, doI_some, doV_some, seqM_eq, chk_t, show ¬ (1 : Int32) = 0 by decide, if_false, i4, c4, cmiss_ev, bzm0, bzm1, if_true, chasP_ev hS.csz, bz_t hC, hD1, hE, within_ev, bz_f hF]
              · unfold f_X9_mark f_X9_mark_60
                simp only [msheet_ev, bz_t hA, doI_some, doV_some, seqM_eq, chk_t, show ¬ (1 : Int32) = 0 by decide, if_false, i4, c4, hS.msort, hD1, show (0 : Int32) ≤ 1 by decide, if_true, hS.msz, in_ev, bz_t hC2, hE, bz_f hF]
      · have hC2 : ¬ inR x2 0 (nI z - 1) := fun q => hC ((inR_vp (by omega)).mp q)
        refine op_pure hI0 (-1000000013) ?_ ?_
        · unfold f_X8_mark
          simp only [csheet_ev, bz_t hA, doI_some, doV_some, seqM_eq, chk_t, show ¬ (1 : Int32) = 0 by decide, if_false, i4, c4, cmiss_ev, bz_f hB, if_true, chasP_ev hS.csz, bz_f hC]
        · unfold f_X9_mark
          simp only [msheet_ev, bz_t hA, doI_some, doV_some, seqM_eq, chk_t, show ¬ (1 : Int32) = 0 by decide, if_false, i4, c4, hS.pos, hB, not_false_eq_true, if_true, hS.msz, in_ev, bz_f hC2]
  · refine op_pure hI0 (-1000000001) ?_ ?_
    · unfold f_X8_mark
      simp only [csheet_ev, bz_f hA, doI_some, doV_some, seqM_eq, chk_t, if_true]
    · unfold f_X9_mark
      simp only [msheet_ev, bz_f hA, doI_some, doV_some, seqM_eq, chk_t, if_true]
end SHEETS
