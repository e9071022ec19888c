/-! PURE: the class's studio on its row (at 70 t) -/
/-- what a voice's numbers may be -/
def VOK (σ : Row) (v : Nat) : Prop := (∃ k, k < 6 ∧ σ (ps v 0) = nI k) ∧ (∃ w, 1 ≤ w ∧ w ≤ 80 ∧ σ (ps v 1) = nI w) ∧ (∃ t, 1 ≤ t ∧ t ≤ 60 ∧ σ (ps v 2) = nI t) ∧ (∃ q, q ≤ 40 ∧ σ (ps v 3) = nI q) ∧ (∃ l, l ≤ 65 ∧ σ (ps v 4) = nI l) ∧ (∃ b, b ≤ 5 ∧ σ (ps v 5) = nI b)
def VSK (n : Nat) (σ : Row) : Prop := ∀ v, v < n → VOK σ v
theorem talks_pos : ∀ k, k < 6 → ∀ t, t < 61 → 1 ≤ t → 1 ≤ talksP (nI k) (nI t) ∧ talksP (nI k) (nI t) ≤ 65 := by decide +kernel
theorem host_eq : ∀ q, q < 256 → (if 1 < (nI q - 2) then (nI q - 2) else 1) = hostP (nI q) := by decide +kernel
theorem lead_eq : ∀ q, q < 256 → (if 1 < ((if 1 < (nI q - 2) then (nI q - 2) else 1) / 2) then ((if 1 < (nI q - 2) then (nI q - 2) else 1) / 2) else 1) = (if 2 ≤ hostP (nI q) then hostP (nI q) / 2 else 1) := by decide +kernel
theorem VOK.talk {σ : Row} {v : Nat} (h : VOK σ v) : 1 ≤ talksS σ v ∧ talksS σ v ≤ 65 := by
  obtain ⟨⟨k, hk, ek⟩, -, ⟨t, h1, h2, et⟩, -⟩ := h
  unfold talksS
  rw [ek, et]
  exact talks_pos k hk t (by omega) h1
theorem VSK.tok {n : Nat} {σ : Row} (h : VSK n σ) : TOK n σ := by
  intro v hv z
  have := (h v hv).talk.1
  rw [z] at this
  exact absurd this (by decide)
theorem VOK.plain {σ : Row} {v : Nat} (h : VOK σ v) : ∃ q, q < 256 ∧ plainS σ v = nI q := by
  obtain ⟨-, ⟨w, -, hw, ew⟩, -, ⟨q, hq, eq⟩, -, ⟨b, hb, eb⟩⟩ := h
  unfold plainS
  rw [ew, eb, nI_add]
  by_cases h14 : σ 14 = nI v
  · rw [if_pos h14, eq, nI_add]; exact ⟨_, by omega, rfl⟩
  · rw [if_neg h14, show (0 : Int32) = nI 0 from rfl, nI_add]; exact ⟨_, by omega, rfl⟩
def SC (m m' : Mem) : Prop := ∀ k, ¬ (800 ≤ k ∧ k < 896) → m' k = m k
theorem SC.refl {m : Mem} : SC m m := fun _ _ => rfl
theorem SC.trans {a b c : Mem} (h1 : SC a b) (h2 : SC b c) : SC a c := fun k q => (h2 k q).trans (h1 k q)
def OffC (fu t : Nat) (m : Mem) (T : Int32) (off : Off) : Prop := ∀ (σ : Row) (m1 : Mem), σ 51 = T → SC m m1 → ∃ m2, SC m1 m2 ∧ f_X4_turningOff fu t (lay (70 * t) 54 σ m1) = some (off (σ 6) (σ 5) (σ 8), lay (70 * t) 54 σ m2)
theorem OffC.moved {fu t : Nat} {m m1 : Mem} {T : Int32} {off : Off} (h : OffC fu t m T off) (hs : SC m m1) : OffC fu t m1 T off := fun σ m2 h1 h2 => h σ m2 h1 (hs.trans h2)
section CROW
variable {fu n v t R : Nat} {σ : Row} {m : Mem} {x : Int32} {off : Off} {T : Int32}
theorem cwaits_ev (hv : v < 5) (h : VOK σ v) {b : Int32} (hb : b = 0 ↔ ¬ σ 14 = nI v) : f_X7_waits fu (10 * t + v) b (lay (70 * t) 54 σ m) = some (waitsS σ v, lay (70 * t) 54 σ m) := by
  obtain ⟨q, hq, eq⟩ := h.plain
  have key : ∀ p : Int32, σ (ps v 1) + σ (ps v 5) + p = nI q → f_X7_waits_21 fu (10 * t + v) (σ (ps v 1) + σ (ps v 5)) p (lay (70 * t) 54 σ m) = some (waitsS σ v, lay (70 * t) 54 σ m) := by
    intro p hp
    unfold f_X7_waits_21 waitsS
    simp only [doI_some, doV_some, seqM_eq, chk_t, hp, eq, lc_vget hv (show 0 < 7 by decide), host_eq q hq, some_ite]
    unfold waitsP
    rw [← lead_eq q hq, host_eq q hq]
  unfold f_X7_waits
  simp only [lc_vget hv (show 1 < 7 by decide), lc_vget hv (show 5 < 7 by decide), lc_vget hv (show 3 < 7 by decide)]
  unfold plainS at eq
  by_cases h14 : σ 14 = nI v
  · rw [if_pos h14] at eq
    rw [if_neg (fun z => hb.mp z h14)]
    exact key _ eq
  · rw [if_neg h14] at eq
    rw [if_pos (hb.mpr h14)]
    exact key _ eq
theorem ctalks_ev (hv : v < 5) : f_X7_talks fu (10 * t + v) (lay (70 * t) 54 σ m) = some (talksS σ v, lay (70 * t) 54 σ m) := by
  unfold f_X7_talks f_X7_talks_43 talksS talksP
  simp only [doI_some, doV_some, seqM_eq, chk_t, lc_vget hv (show 0 < 7 by decide), lc_vget hv (show 2 < 7 by decide), some_ite]
theorem cyields_ev (hv : v < 5) : f_X7_yields fu (10 * t + v) (lay (70 * t) 54 σ m) = some (bz (yieldsP (σ (ps v 0))), lay (70 * t) 54 σ m) := by
  unfold f_X7_yields
  simp only [doI_some, doV_some, seqM_eq, chk_t, lc_vget hv (show 0 < 7 by decide), some_ite]
  by_cases h1 : σ (ps v 0) = 1
  · rw [if_pos h1, bz_f (fun z => z.1 h1)]
  · by_cases h3 : σ (ps v 0) = 3
    · rw [if_neg h1, if_pos h3, bz_f (fun z => z.2 h3)]
    · rw [if_neg h1, if_neg h3, bz_t ⟨h1, h3⟩]
theorem nz_of {x : Int32} (h : 1 ≤ x) : nz x = true := decide_eq_true (fun z => by rw [z] at h; exact absurd h (by decide))
theorem cdraw_ev (hx : 1 ≤ x) : f_X4_drawBelow fu t x (lay (70 * t) 54 σ m) = some (irem (ushr (drawZ (σ 0)) 8) x, lay (70 * t) 54 (upd σ 0 (drawZ (σ 0))) m) := by
  unfold f_X4_drawBelow drawZ
  simp only [doI_some, doV_some, seqM_eq, chk_t, lc_get (show 0 < 54 by decide), lc_upd (show 0 < 54 by decide), pk_us, if_pos hx, nz_of hx]
theorem cbegin_ev (hv : v < 5) (h : 1 ≤ talksS σ v) : f_X4_begin fu t (10 * t + v) (lay (70 * t) 54 σ m) = some (lay (70 * t) 54 (beginS σ v) m) := by
  unfold f_X4_begin beginS
  simp only [ctalks_ev hv, doI_some, doV_some, seqM_eq, chk_t, cdraw_ev h, lc_vupd hv (show 4 < 7 by decide), lc_vupd hv (show 5 < 7 by decide), lc_vupd hv (show 6 < 7 by decide), lc_vget hv (show 6 < 7 by decide)]
  simp [upd, ps]
theorem cready_L (hn : n ≤ 5) (h1 : σ 1 = nI n) (hk : VSK n σ) : ∀ (f i : Nat), i ≤ n → n - i < f → f_X4_whoIsReady_4 fu f t (nI (readyN σ i)) (nI i) (lay (70 * t) 54 σ m) = some (nI (readyN σ n), lay (70 * t) 54 σ m) := by
  intro f
  induction f with
  | zero => intro i _ h; omega
  | succ f ih =>
    intro i hi hf
    rw [f_X4_whoIsReady_4]
    simp only [lc_get (show 1 < 54 by decide), h1]
    by_cases he : i = n
    · subst he
      rw [if_pos (nI_le (Nat.le_refl _) (by omega))]
    · have hlt : i < 5 := by omega
      rw [if_neg (nI_ge (by omega) (by omega)), inb_nI hlt (by decide), chk_t, nI_clamp (by omega)]
      have key : ∀ b : Int32, (b = 0 ↔ ¬ σ 14 = nI i) → f_X4_whoIsReady_35 fu (f_X4_whoIsReady_4 fu f) t (nI (readyN σ i)) (nI i) (10 * t + i) (σ 6) b (lay (70 * t) 54 σ m) = some (nI (readyN σ n), lay (70 * t) 54 σ m) := by
        intro b hb
        unfold f_X4_whoIsReady_35 f_X7_isReady f_X4_whoIsReady_47
        simp only [lc_vget hlt (show 0 < 7 by decide), cwaits_ev hlt (hk i (by omega)) hb, doI_some, doV_some, seqM_eq, chk_t, nI_1]
        by_cases h : readyS σ i
        · have e : readyN σ (i + 1) = readyN σ i + 2 ^ i := by rw [readyN, if_pos h]
          rw [if_neg h.1, if_neg h.2, doI_some, if_neg (by decide), or_bit0 i hlt _ (readyN_lt i), ← e]
          exact ih (i + 1) (by omega) (by omega)
        · have e : readyN σ (i + 1) = readyN σ i := by rw [readyN, if_neg h]; rfl
          have hi := ih (i + 1) (by omega) (by omega)
          rw [e] at hi
          by_cases h5 : σ (ps i 0) = 5
          · rw [if_pos h5, doI_some, if_pos rfl]
            exact hi
          · rw [if_neg h5, if_pos (by
              rcases Decidable.em (σ 6 < waitsS σ i) with q | q
              · exact q
              · exact absurd ⟨h5, q⟩ h), doI_some, if_pos rfl]
            exact hi
      simp only [lc_get (show 14 < 54 by decide), lc_get (show 6 < 54 by decide)]
      by_cases h14 : nI i = σ 14
      · rw [if_pos h14]
        exact key 1 ⟨fun z => absurd z (by decide), fun z => absurd h14.symm z⟩
      · rw [if_neg h14]
        exact key 0 ⟨fun _ z => h14 z.symm, fun _ => rfl⟩
theorem cready_ev (hn : n ≤ 5) (hf : 5 < fu) (h1 : σ 1 = nI n) (hk : VSK n σ) : f_X4_whoIsReady fu t (lay (70 * t) 54 σ m) = some (nI (readyN σ n), lay (70 * t) 54 σ m) := cready_L hn h1 hk fu 0 (Nat.zero_le _) (by omega)
theorem cspeak_L (hn : n ≤ 5) (h1 : σ 1 = nI n) : ∀ (f i : Nat), i ≤ n → n - i < f → f_X4_speakers_4 fu f t (nI (speakN σ i)) (nI i) (lay (70 * t) 54 σ m) = some (nI (speakN σ n), lay (70 * t) 54 σ m) := by
  intro f
  induction f with
  | zero => intro i _ h; omega
  | succ f ih =>
    intro i hi hf
    rw [f_X4_speakers_4]
    simp only [lc_get (show 1 < 54 by decide), h1]
    by_cases he : i = n
    · subst he
      rw [if_pos (nI_le (Nat.le_refl _) (by omega))]
    · have hlt : i < 5 := by omega
      rw [if_neg (nI_ge (by omega) (by omega)), inb_nI hlt (by decide), chk_t, nI_clamp (by omega)]
      simp only [lc_vget hlt (show 4 < 7 by decide), f_X4_speakers_30, doI_some, doV_some, seqM_eq, chk_t, nI_1]
      by_cases h : σ (ps i 4) ≤ 0
      · have e : speakN σ (i + 1) = speakN σ i := by rw [speakN, if_neg (by rw [Int32.not_lt]; exact h)]; rfl
        rw [if_pos h, ← e]
        exact ih (i + 1) (by omega) (by omega)
      · have e : speakN σ (i + 1) = speakN σ i + 2 ^ i := by rw [speakN, if_pos (by rw [Int32.not_le] at h; exact h)]
        rw [if_neg h, or_bit0 i hlt _ (speakN_lt i), ← e]
        exact ih (i + 1) (by omega) (by omega)
theorem cspeak_ev (hn : n ≤ 5) (hf : 5 < fu) (h1 : σ 1 = nI n) : f_X4_speakers fu t (lay (70 * t) 54 σ m) = some (nI (speakN σ n), lay (70 * t) 54 σ m) := cspeak_L hn h1 fu 0 (Nat.zero_le _) (by omega)
/-! hear -/
theorem speak0 : speakN σ n = 0 ↔ ∀ v, v < n → ¬ 0 < σ (ps v 4) := by
  induction n with
  | zero => exact ⟨fun _ v h => absurd h (by omega), fun _ => rfl⟩
  | succ n ih =>
    rw [speakN]
    constructor
    · intro h v hv
      by_cases hp : 0 < σ (ps n 4)
      · rw [if_pos hp] at h
        have := Nat.two_pow_pos n
        omega
      · rw [if_neg hp] at h
        rcases Nat.lt_or_ge v n with q | q
        · exact ih.mp (by omega) v q
        · have : v = n := by omega
          subst this
          exact hp
    · intro h
      rw [if_neg (h n (by omega)), ih.mpr (fun v hv => h v (by omega))]
theorem hearN_l {l : Nat} (hl : l ≤ 65) (e : σ (ps v 4) = nI l) : ∀ n, v < n → hearN σ n (ps v 4) = nI (l - 1) := by
  intro n
  induction n with
  | zero => intro h; omega
  | succ n ih =>
    intro h
    rw [hearN]
    by_cases hv : v = n
    · subst hv
      have e2 : hearN σ v (ps v 4) = nI l := by rw [hearN_o (by have := @ps_ge v 4; omega) v (fun u hu z => by have := (ps_inj (by decide) (by decide) z).1; omega), e]
      unfold hearV
      rw [e2]
      have d : ∀ l, l ≤ 65 → (if nI l ≤ 0 then nI l else nI l - 1) = nI (l - 1) := by decide +kernel
      have d0 := d l hl
      split
      · rename_i h0
        rw [if_pos h0] at d0
        rw [e2, d0]
      · rename_i h0
        rw [if_neg h0] at d0
        split
        · rw [pk_un (by have := @ps_ge v 4; omega), pk_us, d0]
        · rw [pk_us, d0]
    · rw [hearV_o (fun z => hv (ps_inj (by decide) (by decide) z).1) (by have := @ps_ge v 4; omega)]
      exact ih (by omega)
theorem chear_L (hn : n ≤ 5) (h1 : σ 1 = nI n) (hk : VSK n σ) : ∀ (f i : Nat) (x1 : Int32), i ≤ n → n - i < f → (x1 = 0 ↔ ¬ ∀ v, v < i → σ (ps v 4) ≤ 1) → f_X4_hear_4 fu f t x1 (nI i) (lay (70 * t) 54 (hearN σ i) m) = some (lay (70 * t) 54 (hearS n σ) m) := by
  intro f
  induction f with
  | zero => intro i _ _ h; omega
  | succ f ih =>
    intro i x1 hi hf hx
    rw [f_X4_hear_4]
    have e1 : hearN σ i 1 = nI n := by rw [hearN_low (by decide) (by decide), h1]
    simp only [lc_get (show 1 < 54 by decide), e1]
    by_cases he : i = n
    · subst he
      rw [if_pos (nI_le (Nat.le_refl _) (by omega))]
      have hflag : x1 = 0 ↔ ¬ speakN (hearN σ i) i = 0 := by
        rw [hx, speak0]
        refine not_congr ⟨fun h v hv => ?_, fun h v hv => ?_⟩
        · obtain ⟨-, -, -, -, ⟨l, hl, el⟩, -⟩ := hk v hv
          have h2 := h v hv
          rw [el] at h2
          rw [hearN_l hl el i hv]
          have d : ∀ l, l ≤ 65 → nI l ≤ 1 → ¬ 0 < nI (l - 1) := by decide +kernel
          exact d l hl h2
        · obtain ⟨-, -, -, -, ⟨l, hl, el⟩, -⟩ := hk v hv
          have h2 := h v hv
          rw [hearN_l hl el i hv] at h2
          rw [el]
          have d : ∀ l, l ≤ 65 → ¬ 0 < nI (l - 1) → nI l ≤ 1 := by decide +kernel
          exact d l hl h2
      unfold hearS stillS
      simp only [doI_some, doV_some, seqM_eq, chk_t, lc_get (show 6 < 54 by decide), lc_get (show 7 < 54 by decide), lc_get (show 8 < 54 by decide), lc_upd (show 6 < 54 by decide), lc_upd (show 7 < 54 by decide), lc_upd (show 8 < 54 by decide)]
      generalize hearN σ i = τ at hflag ⊢
      by_cases h0 : x1 = 0
      · rw [if_pos h0, if_neg (hflag.mp h0)]
      · have hs : speakN τ i = 0 := by
          rcases Decidable.em (speakN τ i = 0) with q | q
          · exact q
          · exact absurd (hflag.mpr q) h0
        rw [if_neg h0, if_pos hs]
        have a7 : (upd τ 6 (τ 6 + 1)) 7 = τ 7 := pk_un (by decide)
        rw [a7]
        have a6 : (upd (upd τ 6 (τ 6 + 1)) 7 (τ 7 + 1)) 6 = τ 6 + 1 := by rw [pk_un (by decide), pk_us]
        have a8 : (upd (upd τ 6 (τ 6 + 1)) 7 (τ 7 + 1)) 8 = τ 8 := by rw [pk_un (by decide), pk_un (by decide)]
        rw [a6, a8]
        by_cases hc : τ 6 + 1 ≤ τ 8
        · rw [if_neg (by rw [Int32.not_lt]; exact hc), if_pos hc]
        · rw [if_pos (by rw [Int32.not_le] at hc; exact hc), if_neg hc]
    · have hlt : i < 5 := by omega
      rw [if_neg (nI_ge (by omega) (by omega)), inb_nI hlt (by decide), chk_t, nI_clamp (by omega)]
      simp only [lc_vget hlt (show 4 < 7 by decide), lc_vupd hlt (show 4 < 7 by decide), lc_upd (show 14 < 54 by decide), f_X4_hear_60, doI_some, doV_some, seqM_eq, chk_t, nI_1]
      obtain ⟨-, -, -, -, ⟨l, hl, el⟩, -⟩ := hk i (by omega)
      have e4 : hearN σ i (ps i 4) = nI l := by rw [hearN_o (by have := @ps_ge i 4; omega) i (fun u hu z => by have := (ps_inj (by decide) (by decide) z).1; omega), el]
      have hnx : ∀ x2 : Int32, (x2 = 0 ↔ ¬ ∀ v, v < i + 1 → σ (ps v 4) ≤ 1) → f_X4_hear_4 fu f t x2 (nI (i + 1)) (lay (70 * t) 54 (hearV (hearN σ i) i) m) = some (lay (70 * t) 54 (hearS n σ) m) := fun x2 h2 => ih (i + 1) x2 (by omega) (by omega) h2
      unfold hearV at hnx
      rw [e4] at hnx ⊢
      by_cases hle : nI l ≤ 1
      · rw [if_pos hle]
        have hx2 : x1 = 0 ↔ ¬ ∀ v, v < i + 1 → σ (ps v 4) ≤ 1 := by
          rw [hx]
          refine not_congr ⟨fun h v hv => ?_, fun h v hv => h v (by omega)⟩
          rcases Nat.lt_or_ge v i with q | q
          · exact h v q
          · have : v = i := by omega
            subst this
            rw [el]; exact hle
        by_cases h11 : nI l = 1
        · rw [if_pos h11]
          have hh := hnx x1 hx2
          rw [h11, if_neg (by decide), if_pos (by decide), show (1 : Int32) - 1 = 0 by decide] at hh
          exact hh
        · rw [if_neg h11]
          have hh := hnx x1 hx2
          have d : ∀ l, l ≤ 65 → nI l ≤ 1 → ¬ nI l = 1 → nI l ≤ 0 := by decide +kernel
          rw [if_pos (d l hl hle h11)] at hh
          exact hh
      · rw [if_neg hle]
        have hh := hnx 0 ⟨fun _ h => hle (by rw [← el]; exact h i (by omega)), fun _ => rfl⟩
        have d : ∀ l, l ≤ 65 → ¬ nI l ≤ 1 → ¬ nI l ≤ 0 ∧ ¬ nI l - 1 = 0 := by decide +kernel
        rw [if_neg (d l hl hle).1, if_neg (d l hl hle).2] at hh
        exact hh
theorem chear_ev (hn : n ≤ 5) (hf : 5 < fu) (h1 : σ 1 = nI n) (hk : VSK n σ) : f_X4_hear fu t (lay (70 * t) 54 σ m) = some (lay (70 * t) 54 (hearS n σ) m) :=
  chear_L hn h1 hk fu 0 1 (Nat.zero_le _) (by omega) ⟨fun z => absurd z (by decide), fun z => absurd (fun v hv => absurd hv (by omega)) z⟩
end CROW
/-! the rest of a tenth -/
theorem bit_C : ∀ i, i < 5 → ∀ R, R < 32 → ((nI R &&& ((1 : Int32) <<< (nI i &&& 31))) = 0 ↔ ¬ R.testBit i = true) := by decide +kernel
theorem bitcount_C : ∀ R, R < 32 → ∀ m : Mem, ∀ fu : Nat, ∃ r : Int32, f_J6_bitCount_0f7a4 fu (nI R) m = some (r, m) ∧ (r ≤ 1 ↔ nI R &&& (nI R - 1) = 0) := by
  intro R hR m fu
  have d : ∀ R, R < 32 → ((fun x0 : Int32 => seqM (x0 - ((ushr x0 1) &&& 1431655765)) (fun x_1 : Int32 => seqM ((x_1 &&& 858993459) + ((ushr x_1 2) &&& 858993459)) (fun x_3 : Int32 => seqM ((x_3 + (ushr x_3 4)) &&& 252645135) (fun x_5 : Int32 => seqM (x_5 + (ushr x_5 8)) (fun x_7 : Int32 => seqM (x_7 + (ushr x_7 16)) (fun x_9 : Int32 => (x_9 &&& 63))))))) (nI R) ≤ 1 ↔ nI R &&& (nI R - 1) = 0) := by decide +kernel
  exact ⟨_, rfl, d R hR⟩
theorem irem_small {a : Int32} {k : Nat} (h0 : 1 ≤ k) (h1 : k ≤ 65) : ∃ j, j < k ∧ irem (ushr a 8) (nI k) = nI j := by
  have e : ushr a 8 = nI (a.toBitVec.toNat / 2 ^ 8) := by
    unfold ushr
    apply Int32.toBitVec_inj.mp
    apply BitVec.eq_of_toNat_eq
    rw [pk_ushr a 8 8 (by decide), pk_tn]
    have := a.toBitVec.isLt
    omega
  have hlt : a.toBitVec.toNat / 2 ^ 8 < 2 ^ 31 := by
    have := a.toBitVec.isLt
    omega
  refine ⟨a.toBitVec.toNat / 2 ^ 8 % k, Nat.mod_lt _ (by omega), ?_⟩
  unfold irem
  rw [e, pk_rem hlt (by omega) (by omega)]
theorem sm_add {j : Nat} : (1 : Int32) + nI j = nI (j + 1) := by rw [show (1 : Int32) = nI 1 from rfl, nI_add, Nat.add_comm]
theorem small_of {x : Int32} (h1 : 1 ≤ x) (h2 : x ≤ 65) : ∃ k, 1 ≤ k ∧ k ≤ 65 ∧ x = nI k := by
  obtain ⟨j, hj, e⟩ := nI_of2 (M := 65) (n := 65) (by decide) (by
    intro z
    have a := Int32.lt_iff_toInt_lt.mp z
    have b := Int32.le_iff_toInt_le.mp h1
    have c : (0 : Int32).toInt = 0 := by decide
    have d : (1 : Int32).toInt = 1 := by decide
    omega) h2
  refine ⟨j, ?_, hj, e⟩
  rcases Nat.lt_or_ge 0 j with q | q
  · exact q
  · have : j = 0 := by omega
    subst this
    rw [e] at h1
    exact absurd h1 (by decide)
section CROW2
variable {fu n v t R : Nat} {σ : Row} {m : Mem} {x : Int32} {off : Off} {T : Int32}
theorem VOK.congr {τ : Row} (h : VOK σ v) (e : ∀ j, j < 6 → τ (ps v j) = σ (ps v j)) : VOK τ v := by
  unfold VOK
  rw [e 0 (by decide), e 1 (by decide), e 2 (by decide), e 3 (by decide), e 4 (by decide), e 5 (by decide)]
  exact h
theorem beginS_pos (h : VOK σ v) : ∃ l, 1 ≤ l ∧ l ≤ 65 ∧ beginS σ v (ps v 4) = nI l := by
  rw [beginS_4]
  obtain ⟨k, k1, k2, ek⟩ := small_of h.talk.1 h.talk.2
  rw [ek]
  obtain ⟨j, hj, ej⟩ := irem_small (a := drawZ (σ 0)) k1 k2
  rw [ej, sm_add]
  exact ⟨j + 1, by omega, by omega, rfl⟩
theorem beginS_VOK {u : Nat} (h : VOK σ v) (hu : u = v ∨ u ≠ v) (hb : VOK σ u) : VOK (beginS σ u) v := by
  by_cases e : u = v
  · subst e
    obtain ⟨l, l1, l2, el⟩ := beginS_pos h
    obtain ⟨a0, a1, a2, a3, -, -⟩ := h
    have o : ∀ j, j < 4 → beginS σ u (ps u j) = σ (ps u j) := fun j hj => beginS_o (by have := @ps_ge u j; omega) (ps_ne (by omega) (by decide) (by omega)) (ps_ne (by omega) (by decide) (by omega)) (ps_ne (by omega) (by decide) (by omega))
    unfold VOK
    rw [o 0 (by decide), o 1 (by decide), o 2 (by decide), o 3 (by decide)]
    exact ⟨a0, a1, a2, a3, ⟨l, l2, el⟩, 0, by decide, by unfold beginS; rw [pk_us]; rfl⟩
  · refine h.congr (fun j hj => beginS_o (by have := @ps_ge v j; omega) (fun z => e (ps_inj (by omega) (by decide) z).1.symm) (fun z => e (ps_inj (by omega) (by decide) z).1.symm) (fun z => e (ps_inj (by omega) (by decide) z).1.symm))
theorem backS_VOK {u : Nat} (h : VOK σ v) : VOK (backS σ u) v := by
  have o : ∀ j, j < 7 → j ≠ 5 → backS σ u (ps v j) = σ (ps v j) := fun j hj h5 => backS_o (by have := @ps_ge v j; omega) (ps_ne hj (by decide) h5)
  obtain ⟨a0, a1, a2, a3, a4, a5⟩ := h
  unfold VOK
  rw [o 0 (by decide) (by decide), o 1 (by decide) (by decide), o 2 (by decide) (by decide), o 3 (by decide) (by decide), o 4 (by decide) (by decide)]
  refine ⟨a0, a1, a2, a3, a4, ?_⟩
  by_cases e : u = v
  · subst e
    obtain ⟨j, hj, ej⟩ := irem_small (a := drawZ (σ 0)) (k := 6) (by decide) (by decide)
    exact ⟨j, by omega, by unfold backS; rw [pk_us]; exact ej⟩
  · rw [backS_o (by have := @ps_ge v 5; omega) (fun z => e (ps_inj (by decide) (by decide) z).1.symm)]
    exact a5
theorem crossN_VSK {k : Nat} (h : VSK n σ) (hk : k ≤ n) : VSK n (crossN R σ k) := by
  induction k with
  | zero => exact h
  | succ k ih =>
    intro w hw
    have h2 := ih (by omega)
    rw [crossN, crossV]
    split
    · split
      · exact backS_VOK (h2 w hw)
      · exact beginS_VOK (h2 w hw) (Decidable.em _) (h2 k (by omega))
    · exact h2 w hw
/-- whether all that cross yield -/
theorem ccross_L (hn : n ≤ 5) (h1 : σ 1 = nI n) (hR : R < 32) (hk : VSK n σ) (h0 : speakN σ n = 0) : ∀ (f i : Nat) (x2 : Int32), i ≤ n → n - i < f → (x2 = 0 ↔ ¬ ∀ v, v < n → ¬ 0 < crossN R σ i (ps v 4)) → f_X4_cross_14 fu f t (nI R) x2 (nI i) (lay (70 * t) 54 (crossN R σ i) m) = some (lay (70 * t) 54 (upd (crossN R σ n) 6 (if speakN (crossN R σ n) n = 0 then 0 else crossN R σ n 6)) m) := by
  intro f
  induction f with
  | zero => intro i _ _ h; omega
  | succ f ih =>
    intro i x2 hi hf hx
    rw [f_X4_cross_14]
    have e1 : crossN R σ i 1 = nI n := by rw [crossN_low (by decide) (by decide), h1]
    simp only [lc_get (show 1 < 54 by decide), e1]
    by_cases he : i = n
    · subst he
      rw [if_pos (nI_le (Nat.le_refl _) (by omega))]
      rw [← speak0] at hx
      by_cases hz : x2 = 0
      · rw [if_pos hz, if_neg (hx.mp hz), upd_self]
      · have hs : speakN (crossN R σ i) i = 0 := by
          rcases Decidable.em (speakN (crossN R σ i) i = 0) with q | q
          · exact q
          · exact absurd (hx.mpr q) hz
        simp only [doI_some, doV_some, seqM_eq, chk_t, lc_upd (show 6 < 54 by decide)]
        rw [if_neg hz, if_pos hs]
    · have hlt : i < 5 := by omega
      rw [if_neg (nI_ge (by omega) (by omega))]
      have hv2 := crossN_VSK (R := R) hk (Nat.le_of_lt (show i < n by omega))
      have hnx : ∀ x3 : Int32, (x3 = 0 ↔ ¬ ∀ v, v < n → ¬ 0 < crossV R (crossN R σ i) i (ps v 4)) → f_X4_cross_14 fu f t (nI R) x3 (nI (i + 1)) (lay (70 * t) 54 (crossV R (crossN R σ i) i) m) = some (lay (70 * t) 54 (upd (crossN R σ n) 6 (if speakN (crossN R σ n) n = 0 then 0 else crossN R σ n 6)) m) := fun x3 h3 => ih (i + 1) x3 (by omega) (by omega) h3
      unfold crossV at hnx
      generalize crossN R σ i = τ at hx hv2 hnx e1 ⊢
      by_cases hb : R.testBit i = true
      · rw [if_neg (fun z => (bit_C i hlt R hR).mp z hb), inb_nI hlt (by decide), chk_t, nI_clamp (by omega), cyields_ev hlt]
        simp only [doI_some, doV_some, seqM_eq, chk_t, bz0, f_X4_cross_68, nI_1]
        rw [if_pos hb] at hnx
        by_cases hy : yieldsP (τ (ps i 0))
        · rw [if_pos hy] at hnx
          rw [if_neg (fun z => z hy), cdraw_ev (by decide)]
          simp only [doI_some, doV_some, seqM_eq, chk_t, lc_vupd hlt (show 5 < 7 by decide)]
          refine hnx x2 ?_
          rw [hx]
          refine not_congr ⟨fun h w hw => ?_, fun h w hw => ?_⟩
          · have := h w hw
            rw [backS_o (by have := @ps_ge w 4; omega) (ps_ne (by decide) (by decide) (by decide))]
            exact this
          · have := h w hw
            rw [backS_o (by have := @ps_ge w 4; omega) (ps_ne (by decide) (by decide) (by decide))] at this
            exact this
        · rw [if_neg hy] at hnx
          rw [if_pos hy, cbegin_ev hlt (hv2 i (by omega)).talk.1]
          simp only [doI_some, doV_some, seqM_eq, chk_t]
          refine hnx 0 ⟨fun _ h => ?_, fun _ => rfl⟩
          obtain ⟨l, l1, l2, el⟩ := beginS_pos (hv2 i (by omega))
          have := h i (by omega)
          rw [el] at this
          exact this (by rw [show (0 : Int32) = nI 0 from rfl]; exact nI_lt l1 (by omega))
      · rw [if_pos ((bit_C i hlt R hR).mpr hb)]
        rw [if_neg hb] at hnx
        simp only [f_X4_cross_68, doI_some, doV_some, seqM_eq, chk_t, nI_1]
        exact hnx x2 hx
theorem ccross_ev (hn : n ≤ 5) (hf : 5 < fu) (h1 : σ 1 = nI n) (hR : R < 32) (hk : VSK n σ) (h0 : speakN σ n = 0) : f_X4_cross fu t (nI R) (lay (70 * t) 54 σ m) = some (lay (70 * t) 54 (crossS n R σ) m) := by
  unfold f_X4_cross crossS
  simp only [doI_some, doV_some, seqM_eq, chk_t, lc_get (show 11 < 54 by decide), lc_upd (show 11 < 54 by decide)]
  have h1' : (upd σ 11 (σ 11 + 1)) 1 = nI n := by rw [pk_un (by decide), h1]
  have u4 : ∀ w j, (upd σ 11 (σ 11 + 1)) (ps w j) = σ (ps w j) := fun w j => pk_un (by have := @ps_ge w j; omega)
  have hk' : VSK n (upd σ 11 (σ 11 + 1)) := fun w hw => (hk w hw).congr (fun j _ => u4 w j)
  have h0' : speakN (upd σ 11 (σ 11 + 1)) n = 0 := speak0.mpr (fun w hw => by rw [u4]; exact speak0.mp h0 w hw)
  exact ccross_L hn h1' hR hk' h0' fu 0 1 (Nat.zero_le _) (by omega) ⟨fun z => absurd z (by decide), fun z => absurd (speak0.mp h0') z⟩
theorem turnN_VSK {k : Nat} (h : VSK n σ) (hk : k ≤ n) : VSK n (turnN R σ k) := by
  induction k with
  | zero => exact h
  | succ k ih =>
    intro w hw
    have h2 := ih (by omega)
    have u : ∀ q x, q < 16 → VSK n (upd (turnN R σ k) q x) := fun q x hq w hw => (h2 w hw).congr (fun j _ => pk_un (by have := @ps_ge w j; omega))
    rw [turnN, turnV]
    split
    · split
      · exact beginS_VOK (u 9 _ (by decide) w hw) (Decidable.em _) (u 9 _ (by decide) k (by omega))
      · exact beginS_VOK (u 10 _ (by decide) w hw) (Decidable.em _) (u 10 _ (by decide) k (by omega))
    · exact h2 w hw
theorem cturn_L (hn : n ≤ 5) (h1 : σ 1 = nI n) (hR : R < 32) (hk : VSK n σ) : ∀ (f i : Nat), i ≤ n → n - i < f → f_X4_answerSilence_16 fu f t (nI R) (nI i) (lay (70 * t) 54 (turnN R σ i) m) = some (lay (70 * t) 54 (turnN R σ n) m) := by
  intro f
  induction f with
  | zero => intro i _ h; omega
  | succ f ih =>
    intro i hi hf2
    rw [f_X4_answerSilence_16]
    have e1 : turnN R σ i 1 = nI n := by rw [turnN_low (by decide) (by decide) (by decide) (by decide), h1]
    simp only [lc_get (show 1 < 54 by decide), e1]
    by_cases he : i = n
    · subst he
      rw [if_pos (nI_le (Nat.le_refl _) (by omega))]
    · have hlt : i < 5 := by omega
      rw [if_neg (nI_ge (by omega) (by omega)), bit_eq i hlt]
      have hv2 := turnN_VSK (R := R) hk (Nat.le_of_lt (show i < n by omega))
      have hnext := ih (i + 1) (by omega) (by omega)
      rw [turnN] at hnext
      have hp := pow_lt5 hlt
      generalize turnN R σ i = τ at hv2 hnext e1 ⊢
      by_cases hb : R = 2 ^ i
      · rw [if_pos (by rw [hb])]
        rw [turnV, if_pos hb] at hnext
        have hu : ∀ q y, q < 16 → 1 ≤ talksS (upd τ q y) i := fun q y hq => by
          have e : talksS (upd τ q y) i = talksS τ i := talksS_congr (pk_un (by have := @ps_ge i 0; omega)) (pk_un (by have := @ps_ge i 2; omega))
          rw [e]; exact (hv2 i (by omega)).talk.1
        simp only [f_X4_beginAlone, f_X4_beginAlone_31, lc_get (show 14 < 54 by decide), doI_some, doV_some, seqM_eq, chk_t, lc_get (show 9 < 54 by decide), lc_get (show 10 < 54 by decide), lc_upd (show 9 < 54 by decide), lc_upd (show 10 < 54 by decide), inb_nI hlt (show 5 < 2 ^ 31 by decide), nI_clamp (show i < 2 ^ 31 by omega)]
        by_cases h14 : τ 14 = nI i
        · rw [if_pos h14.symm, cbegin_ev hlt (hu _ _ (by decide))]
          rw [if_pos h14] at hnext
          simp only [doI_some, doV_some, seqM_eq, chk_t, f_X4_answerSilence_36, nI_1]
          exact hnext
        · rw [if_neg (fun z => h14 z.symm), cbegin_ev hlt (hu _ _ (by decide))]
          rw [if_neg h14] at hnext
          simp only [doI_some, doV_some, seqM_eq, chk_t, f_X4_answerSilence_36, nI_1]
          exact hnext
      · rw [if_neg (fun z => hb ((nI_eq (by omega) (by omega)).mp z))]
        rw [turnV, if_neg hb] at hnext
        simp only [doI_some, doV_some, seqM_eq, chk_t, f_X4_answerSilence_36, nI_1]
        exact hnext
theorem canswer_ev (hn : n ≤ 5) (hf : 5 < fu) (h1 : σ 1 = nI n) (hk : VSK n σ) (h0 : speakN σ n = 0) : f_X4_answerSilence fu t (nI (readyN σ n)) (lay (70 * t) 54 σ m) = some (lay (70 * t) 54 (actS n σ) m) := by
  have hR : readyN σ n < 32 := Nat.lt_of_lt_of_le (readyN_lt n) (Nat.pow_le_pow_right (by decide) hn : 2 ^ n ≤ 2 ^ 5)
  obtain ⟨r, e1, e2⟩ := bitcount_C _ hR (lay (70 * t) 54 σ m) fu
  unfold f_X4_answerSilence actS
  rw [e1]
  simp only [doI_some, doV_some, seqM_eq, chk_t]
  by_cases hc : nI (readyN σ n) &&& (nI (readyN σ n) - 1) = 0
  · rw [if_pos (e2.mpr hc), if_pos hc]
    exact cturn_L hn h1 hR hk fu 0 (Nat.zero_le _) (by omega)
  · rw [if_neg (fun z => hc (e2.mp z)), if_neg hc, ccross_ev hn hf h1 hR hk h0]
    rfl
/-- the numbers of a row beside its voices -/
def SCA (B : Nat) (σ : Row) : Prop := (∃ l, l ≤ 9999 ∧ σ 5 = nI l) ∧ (∃ T s h j, T ≤ B ∧ σ 2 = nI T ∧ s ≤ T ∧ σ 6 = nI s ∧ h ≤ T ∧ σ 8 = nI h ∧ j ≤ T ∧ σ 12 = nI j)
theorem jingle_eq {l j : Nat} (hl : l ≤ 9999) (hj : j < 100000) : (if 0 < (nI l - nI j) then (nI l - nI j) else 0) = clampO (nI l - nI j) 9999 := by
  unfold clampO
  have e : (nI l - nI j).toInt = (l : Int) - j := pk_sub_toInt (by omega) (by omega)
  have c0 : (0 : Int32).toInt = 0 := by decide
  have c9 : (9999 : Int32).toInt = 9999 := by decide
  simp only [Int32.lt_iff_toInt_lt, Int32.le_iff_toInt_le, e, c0, c9]
  by_cases h : (0 : Int) < (l : Int) - j
  · rw [if_pos h, if_pos (by omega), if_pos (by omega)]
  · rw [if_neg h]
    by_cases h2 : (0 : Int) ≤ (l : Int) - j
    · rw [if_pos h2, if_pos (by omega)]
      apply Int32.toInt_inj.mp
      rw [e, c0]; omega
    · rw [if_neg h2]
theorem clamp_eq {l : Nat} {r : Int32} (hl : l ≤ 9999) : (if 0 < (if nI l < r then nI l else r) then (if nI l < r then nI l else r) else 0) = clampO r (nI l) := by
  unfold clampO
  have el : (nI l).toInt = (l : Int) := nI_toInt (by omega)
  have c0 : (0 : Int32).toInt = 0 := by decide
  simp only [Int32.lt_iff_toInt_lt, Int32.le_iff_toInt_le, el, c0]
  by_cases h : (l : Int) < r.toInt
  · simp only [if_pos h, el]
    rw [if_pos (show (0 : Int) ≤ r.toInt by omega), if_neg (show ¬ r.toInt ≤ (l : Int) by omega)]
    by_cases hz : (0 : Int) < l
    · rw [if_pos hz]
    · rw [if_neg hz]
      have : l = 0 := by omega
      subst this
      rfl
  · simp only [if_neg h]
    by_cases h0 : (0 : Int) < r.toInt
    · rw [if_pos h0, if_pos (show (0 : Int) ≤ r.toInt by omega), if_pos (show r.toInt ≤ (l : Int) by omega)]
    · rw [if_neg h0]
      by_cases h2 : (0 : Int) ≤ r.toInt
      · rw [if_pos h2, if_pos (show r.toInt ≤ (l : Int) by omega)]
        apply Int32.toInt_inj.mp
        rw [c0]; omega
      · rw [if_neg h2]
def LJ (σ : Row) : Prop := ∃ l j, l ≤ 9999 ∧ σ 5 = nI l ∧ j < 100000 ∧ σ 12 = nI j
theorem cbear_ev (hs : LJ σ) (ho : OffC fu t m T off) (hT : σ 51 = T) : ∃ m2, SC m m2 ∧ f_X4_bearSilence fu t (lay (70 * t) 54 σ m) = some (lay (70 * t) 54 (bearS off σ) m2) := by
  obtain ⟨l, j, hl, el, hj, ej⟩ := hs
  have h99 : ∃ m2, SC m m2 ∧ f_X4_bearSilence_99 fu t (lay (70 * t) 54 σ m) = some (lay (70 * t) 54 (upd σ 5 (σ 5 - clampO (off (σ 6) (σ 5) (σ 8)) (σ 5))) m2) := by
    obtain ⟨m2, h1, h2⟩ := ho σ m hT SC.refl
    refine ⟨m2, h1, ?_⟩
    unfold f_X4_bearSilence_99
    rw [h2]
    simp only [doI_some, doV_some, seqM_eq, chk_t, lc_get (show 5 < 54 by decide), lc_upd (show 5 < 54 by decide)]
    rw [el, clamp_eq hl]
  have h53 : ¬ (¬ σ 4 = 0 ∧ σ 6 = σ 4) → ∃ m2, SC m m2 ∧ f_X4_bearSilence_53 fu t (lay (70 * t) 54 σ m) = some (lay (70 * t) 54 (bearS off σ) m2) := by
    intro hno
    unfold f_X4_bearSilence_53 bearS
    simp only [doI_some, doV_some, seqM_eq, chk_t, lc_get (show 3 < 54 by decide), lc_get (show 5 < 54 by decide), lc_get (show 6 < 54 by decide), lc_get (show 13 < 54 by decide), lc_upd (show 5 < 54 by decide), lc_upd (show 13 < 54 by decide), lc_upd (show 6 < 54 by decide), if_neg hno]
    by_cases h3 : σ 3 = 0
    · rw [if_pos h3, if_neg (fun z => z.1 h3)]
      exact h99
    · rw [if_neg h3]
      by_cases h6 : σ 6 < σ 3
      · rw [if_pos h6, if_neg (fun z => z.2 h6)]
        exact h99
      · rw [if_neg h6, if_pos ⟨h3, h6⟩]
        refine ⟨m, SC.refl, ?_⟩
        rw [show (upd σ 5 (σ 5 / 2)) 13 = σ 13 from pk_un (by decide)]
  unfold f_X4_bearSilence
  simp only [doI_some, doV_some, seqM_eq, chk_t, lc_get (show 4 < 54 by decide), lc_get (show 5 < 54 by decide), lc_get (show 6 < 54 by decide), lc_get (show 12 < 54 by decide), lc_upd (show 5 < 54 by decide), lc_upd (show 12 < 54 by decide), lc_upd (show 6 < 54 by decide)]
  by_cases h4 : σ 4 = 0
  · rw [if_pos h4]
    exact h53 (fun z => z.1 h4)
  · rw [if_neg h4]
    by_cases h6 : σ 6 = σ 4
    · rw [if_pos h6]
      refine ⟨m, SC.refl, ?_⟩
      unfold bearS
      rw [if_pos (show ¬ σ 4 = 0 ∧ σ 6 = σ 4 from ⟨h4, h6⟩), show ∀ y, (upd σ 5 y) 12 = σ 12 from fun y => pk_un (by decide), el, ej, jingle_eq hl (by omega)]
    · rw [if_neg h6]
      exact h53 (fun z => h6 z.2)
end CROW2

section CROW3
variable {fu n v t R B : Nat} {σ : Row} {m : Mem} {x : Int32} {off : Off} {T : Int32}
theorem actS_VSK (hk : VSK n σ) : VSK n (actS n σ) := by
  unfold actS
  split
  · exact turnN_VSK hk (Nat.le_refl _)
  · unfold crossS
    have u : ∀ w j y, (upd σ 11 y) (ps w j) = σ (ps w j) := fun w j y => pk_un (by have := @ps_ge w j; omega)
    have h2 : VSK n (upd σ 11 (σ 11 + 1)) := fun w hw => (hk w hw).congr (fun j _ => u w j _)
    have h3 := crossN_VSK (R := readyN σ n) h2 (Nat.le_refl _)
    exact fun w hw => (h3 w hw).congr (fun j _ => pk_un (by have := @ps_ge w j; omega))
theorem low_ne {q : Nat} (hq : q < 16) : ∀ u : Nat, u < n → q ≠ ps u 4 ∧ q ≠ ps u 5 ∧ q ≠ ps u 6 := fun u _ => by
  have := @ps_ge u 4; have := @ps_ge u 5; have := @ps_ge u 6; refine ⟨?_, ?_, ?_⟩ <;> omega
theorem bearS_o {q : Nat} (h5 : q ≠ 5) (h6 : q ≠ 6) (h12 : q ≠ 12) (h13 : q ≠ 13) : bearS off σ q = σ q := by
  unfold bearS
  split
  · rw [pk_un h6, pk_un h12, pk_un h5]
  · split
    · rw [pk_un h6, pk_un h13, pk_un h5]
    · rw [pk_un h5]
theorem mask1 : ∀ R, R < 32 → ¬ R = 0 → nI R &&& (nI R - 1) = 0 → ∃ i, i < 5 ∧ R = 2 ^ i := by decide +kernel
theorem turn0 : ∀ k, turnN 0 σ k = σ := by
  intro k
  induction k with
  | zero => rfl
  | succ k ih => rw [turnN, ih, turnV, if_neg (by have := Nat.two_pow_pos k; omega)]
theorem readyN_bit : ∀ k i, i < k → readyN σ k = 2 ^ i → True := fun _ _ _ _ => trivial
/-- one alone: she speaks then -/
theorem turn1 {i : Nat} (hi : i < n) (hk : VSK n σ) (hR : R = 2 ^ i) : ¬ speakN (turnN R σ n) n = 0 := by
  intro h
  have h2 := speak0.mp h i hi
  have key : ∀ k, i < k → k ≤ n → 0 < turnN R σ k (ps i 4) := by
    intro k
    induction k with
    | zero => intro h _; omega
    | succ k ih =>
      intro h1 hkn
      rw [turnN]
      by_cases e : i = k
      · subst e
        have hv := turnN_VSK (R := R) (k := i) hk (by omega)
        have u : ∀ q y, q < 16 → VOK (upd (turnN R σ i) q y) i := fun q y hq => (hv i hi).congr (fun j _ => pk_un (by have := @ps_ge i j; omega))
        unfold turnV
        rw [if_pos hR]
        split
        · obtain ⟨l, l1, l2, el⟩ := beginS_pos (u 9 (turnN R σ i 9 + 1) (by decide))
          rw [el, show (0 : Int32) = nI 0 from rfl]; exact nI_lt l1 (by omega)
        · obtain ⟨l, l1, l2, el⟩ := beginS_pos (u 10 (turnN R σ i 10 + 1) (by decide))
          rw [el, show (0 : Int32) = nI 0 from rfl]; exact nI_lt l1 (by omega)
      · have hne : ¬ R = 2 ^ k := by
          rw [hR]
          intro z
          exact e ((Nat.pow_right_inj (by decide : 1 < 2)).mp z)
        rw [turnV, if_neg hne]
        exact ih (by omega) (by omega)
  exact h2 (key n hi (Nat.le_refl _))
theorem readyN_pow {i : Nat} (h : readyN σ n = 2 ^ i) : i < n := by
  have := readyN_lt (σ := σ) n
  rw [h] at this
  exact (Nat.pow_lt_pow_iff_right (by decide)).mp this
/-- behind hear: silence is 0 just if somebody speaks -/
theorem cgoOn_ev (hn : n ≤ 5) (hf : 5 < fu) (h1 : σ 1 = nI n) (hk : VSK n σ) (hs : LJ σ) (ho : OffC fu t m T off) (hT : σ 51 = T) (h6 : σ 6 = 0 ↔ ¬ speakN σ n = 0) : ∃ m2, SC m m2 ∧ f_X4_goOn fu t (lay (70 * t) 54 σ m) = some (lay (70 * t) 54 (goOnS off n σ) m2) := by
  unfold f_X4_goOn f_X4_goOn_28 goOnS
  simp only [lc_get (show 6 < 54 by decide)]
  by_cases h0 : σ 6 = 0
  · have hns := h6.mp h0
    rw [if_pos h0, if_neg hns]
    refine ⟨m, SC.refl, ?_⟩
    unfold lastS tickS
    rw [if_neg (fun z => hns z.1)]
    simp only [doI_some, doV_some, seqM_eq, chk_t, lc_get (show 2 < 54 by decide), lc_upd (show 2 < 54 by decide)]
  · have hsp : speakN σ n = 0 := by
      rcases Decidable.em (speakN σ n = 0) with q | q
      · exact q
      · exact absurd (h6.mpr q) h0
    rw [if_neg h0, if_pos hsp, cready_ev hn hf h1 hk]
    simp only [doI_some, doV_some, seqM_eq, chk_t]
    have hR : readyN σ n < 32 := Nat.lt_of_lt_of_le (readyN_lt n) (Nat.pow_le_pow_right (by decide) hn : 2 ^ n ≤ 2 ^ 5)
    by_cases hr : readyN σ n = 0
    · rw [hr, if_pos (by decide)]
      obtain ⟨m2, q1, q2⟩ := cbear_ev hs ho hT
      rw [q2]
      refine ⟨m2, q1, ?_⟩
      have ea : actS n σ = σ := by
        unfold actS
        rw [hr, if_pos (by decide), turn0]
      rw [ea]
      unfold lastS tickS
      rw [if_pos ⟨hsp, h0⟩]
      simp only [doI_some, doV_some, seqM_eq, chk_t, lc_get (show 2 < 54 by decide), lc_upd (show 2 < 54 by decide)]
    · rw [if_neg (nI_ne0 (by omega) (by omega)), canswer_ev hn hf h1 hk hsp]
      refine ⟨m, SC.refl, ?_⟩
      simp only [doI_some, doV_some, seqM_eq, chk_t, lc_get (show 2 < 54 by decide), lc_upd (show 2 < 54 by decide)]
      have el : lastS off n (actS n σ) = actS n σ := by
        unfold lastS
        refine if_neg ?_
        intro z
        unfold actS at z
        by_cases hc : nI (readyN σ n) &&& (nI (readyN σ n) - 1) = 0
        · rw [if_pos hc] at z
          obtain ⟨i, hi, ei⟩ := mask1 _ hR hr hc
          exact turn1 (readyN_pow ei) hk ei z.1
        · rw [if_neg hc] at z
          unfold crossS at z
          have hsp2 : ∀ ρ : Row, ∀ y, speakN (upd ρ 6 y) n = speakN ρ n := by
            intro ρ y
            clear z
            have : ∀ k, speakN (upd ρ 6 y) k = speakN ρ k := by
              intro k
              induction k with
              | zero => rfl
              | succ k ih => rw [speakN, speakN, ih, pk_un (by have := @ps_ge k 4; omega)]
            exact this n
          rw [hsp2, pk_us] at z
          rw [if_pos z.1] at z
          exact z.2 rfl
      rw [el]
      rfl
/-! what a tenth keeps -/
theorem hearN_VSK (hk : VSK n σ) (k : Nat) : VSK n (hearN σ k) := by
  intro w hw
  obtain ⟨a0, a1, a2, a3, ⟨l, hl, el⟩, a5⟩ := hk w hw
  unfold VOK
  rw [hearN_f (j := 0) (by decide) (by decide), hearN_f (j := 1) (by decide) (by decide), hearN_f (j := 2) (by decide) (by decide), hearN_f (j := 3) (by decide) (by decide), hearN_f (j := 5) (by decide) (by decide)]
  refine ⟨a0, a1, a2, a3, ?_, a5⟩
  rcases Nat.lt_or_ge w k with q | q
  · exact ⟨l - 1, by omega, hearN_l hl el k q⟩
  · exact ⟨l, hl, by rw [hearN_o (by have := @ps_ge w 4; omega) k (fun u hu z => by have := (ps_inj (by decide) (by decide) z).1; omega), el]⟩
theorem hearS_VSK (hk : VSK n σ) : VSK n (hearS n σ) := by
  intro w hw
  refine (hearN_VSK hk n w hw).congr (fun j _ => ?_)
  unfold hearS
  exact stillS_o (by have := @ps_ge w j; omega) (by have := @ps_ge w j; omega) (by have := @ps_ge w j; omega)
/-- the numbers between hear and the end of the tenth: silence may be one more than the tenth -/
def SCH (B : Nat) (σ : Row) : Prop := (∃ l, l ≤ 9999 ∧ σ 5 = nI l) ∧ (∃ T s h j, T ≤ B ∧ σ 2 = nI T ∧ s ≤ T + 1 ∧ σ 6 = nI s ∧ h ≤ T + 1 ∧ σ 8 = nI h ∧ j ≤ T ∧ σ 12 = nI j)
theorem hearS_SCH (hB : B < 100000) (hs : SCA B σ) : SCH B (hearS n σ) ∧ (hearS n σ 6 = 0 ↔ ¬ speakN (hearS n σ) n = 0) := by
  obtain ⟨⟨l, hl, el⟩, ⟨T', s, h, j, hT1, eT, hs1, es, hh, eh, hj, ej⟩⟩ := hs
  have b5 : hearN σ n 5 = nI l := by rw [hearN_low (by decide) (by decide), el]
  have b2 : hearN σ n 2 = nI T' := by rw [hearN_low (by decide) (by decide), eT]
  have b6 : hearN σ n 6 = nI s := by rw [hearN_low (by decide) (by decide), es]
  have b8 : hearN σ n 8 = nI h := by rw [hearN_low (by decide) (by decide), eh]
  have b12 : hearN σ n 12 = nI j := by rw [hearN_low (by decide) (by decide), ej]
  have esp : speakN (hearS n σ) n = speakN (hearN σ n) n := stillS_speak n
  rw [esp]
  unfold hearS
  generalize hearN σ n = τ at b5 b2 b6 b8 b12
  unfold SCH
  rw [stillS_o (q := 5) (by decide) (by decide) (by decide), stillS_o (q := 2) (by decide) (by decide) (by decide), stillS_o (q := 12) (by decide) (by decide) (by decide)]
  unfold stillS
  by_cases hsp : speakN τ n = 0
  · simp only [if_pos hsp]
    rw [pk_us, pk_un (show 6 ≠ 8 by decide), pk_un (show 6 ≠ 7 by decide), pk_us, b6, b8, nI_1]
    refine ⟨⟨⟨l, hl, b5⟩, T', s + 1, (if nI (s + 1) ≤ nI h then h else s + 1), j, hT1, b2, by omega, rfl, ?_, ?_, hj, b12⟩, ?_⟩
    · split <;> omega
    · split <;> rfl
    · exact ⟨fun z => absurd z (nI_ne0 (by omega) (by omega)), fun z => absurd hsp z⟩
  · simp only [if_neg hsp]
    rw [pk_us, pk_un (show 8 ≠ 6 by decide), b8]
    exact ⟨⟨⟨l, hl, b5⟩, T', 0, h, j, hT1, b2, by omega, rfl, by omega, rfl, hj, b12⟩, ⟨fun _ => hsp, fun _ => rfl⟩⟩
end CROW3
