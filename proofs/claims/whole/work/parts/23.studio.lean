/-! PURE: the class's studio on its row (at 70 t) -/
/-- what a voice's numbers may be -/
def VOK (σ : Row) (v : Nat) : Prop := (∃ k, k < 6 ∧ σ (ps v 0) = nI k) ∧ (∃ w, 1 ≤ w ∧ w ≤ 80 ∧ σ (ps v 1) = nI w) ∧ (∃ t, 1 ≤ t ∧ t ≤ 60 ∧ σ (ps v 2) = nI t) ∧ (∃ q, q ≤ 40 ∧ σ (ps v 3) = nI q) ∧ (∃ l, l ≤ 65 ∧ σ (ps v 4) = nI l) ∧ (∃ b, b ≤ 5 ∧ σ (ps v 5) = nI b)
def VSK (n : Nat) (σ : Row) : Prop := ∀ v, v < n → VOK σ v
theorem talks_pos : ∀ k, k < 6 → ∀ t, t < 61 → 1 ≤ t → 1 ≤ talksP (nI k) (nI t) ∧ talksP (nI k) (nI t) ≤ 65 := by decide +kernel
theorem host_eq : ∀ q, q < 256 → (if 1 < (nI q - 2) then (nI q - 2) else 1) = hostP (nI q) := by decide +kernel
theorem lead_eq : ∀ q, q < 256 → (if 1 < ((if 1 < (nI q - 2) then (nI q - 2) else 1) / 2) then ((if 1 < (nI q - 2) then (nI q - 2) else 1) / 2) else 1) = (if 2 ≤ hostP (nI q) then hostP (nI q) / 2 else 1) := by decide +kernel
theorem VOK.talk {σ : Row} {v : Nat} (h : VOK σ v) : 1 ≤ talksS σ v ∧ talksS σ v ≤ 65 := by
  obtain ⟨⟨k, hk, ek⟩, -, ⟨t, h1, h2, et⟩, -⟩ := h
  unfold talksS
  rw [ek, et]
  exact talks_pos k hk t (by omega) h1
theorem VSK.tok {n : Nat} {σ : Row} (h : VSK n σ) : TOK n σ := by
  intro v hv z
  have := (h v hv).talk.1
  rw [z] at this
  exact absurd this (by decide)
theorem VOK.plain {σ : Row} {v : Nat} (h : VOK σ v) : ∃ q, q < 256 ∧ plainS σ v = nI q := by
  obtain ⟨-, ⟨w, -, hw, ew⟩, -, ⟨q, hq, eq⟩, -, ⟨b, hb, eb⟩⟩ := h
  unfold plainS
  rw [ew, eb, nI_add]
  by_cases h14 : σ 14 = nI v
  · rw [if_pos h14, eq, nI_add]; exact ⟨_, by omega, rfl⟩
  · rw [if_neg h14, show (0 : Int32) = nI 0 from rfl, nI_add]; exact ⟨_, by omega, rfl⟩
def SC (m m' : Mem) : Prop := ∀ k, ¬ (800 ≤ k ∧ k < 896) → m' k = m k
theorem SC.refl {m : Mem} : SC m m := fun _ _ => rfl
theorem SC.trans {a b c : Mem} (h1 : SC a b) (h2 : SC b c) : SC a c := fun k q => (h2 k q).trans (h1 k q)
def OffC (fu t : Nat) (m : Mem) (T : Int32) (off : Off) : Prop := ∀ (σ : Row) (m1 : Mem), σ 51 = T → SC m m1 → ∃ m2, SC m1 m2 ∧ f_X4_turningOff fu t (lay (70 * t) 54 σ m1) = some (off (σ 6) (σ 5) (σ 8), lay (70 * t) 54 σ m2)
theorem OffC.moved {fu t : Nat} {m m1 : Mem} {T : Int32} {off : Off} (h : OffC fu t m T off) (hs : SC m m1) : OffC fu t m1 T off := fun σ m2 h1 h2 => h σ m2 h1 (hs.trans h2)
section CROW
variable {fu n v t R : Nat} {σ : Row} {m : Mem} {x : Int32} {off : Off} {T : Int32}
theorem cwaits_ev (hv : v < 5) (h : VOK σ v) {b : Int32} (hb : b = 0 ↔ ¬ σ 14 = nI v) : f_X7_waits fu (10 * t + v) b (lay (70 * t) 54 σ m) = some (waitsS σ v, lay (70 * t) 54 σ m) := by
  obtain ⟨q, hq, eq⟩ := h.plain
  have key : ∀ p : Int32, σ (ps v 1) + σ (ps v 5) + p = nI q → f_X7_waits_21 fu (10 * t + v) (σ (ps v 1) + σ (ps v 5)) p (lay (70 * t) 54 σ m) = some (waitsS σ v, lay (70 * t) 54 σ m) := by
    intro p hp
    unfold f_X7_waits_21 waitsS
    simp only [doI_some, doV_some, seqM_eq, chk_t, hp, eq, lc_vget hv (show 0 < 7 by decide), host_eq q hq, some_ite]
    unfold waitsP
    rw [← lead_eq q hq, host_eq q hq]
  unfold f_X7_waits
  simp only [lc_vget hv (show 1 < 7 by decide), lc_vget hv (show 5 < 7 by decide), lc_vget hv (show 3 < 7 by decide)]
  unfold plainS at eq
  by_cases h14 : σ 14 = nI v
  · rw [if_pos h14] at eq
    rw [if_neg (fun z => hb.mp z h14)]
    exact key _ eq
  · rw [if_neg h14] at eq
    rw [if_pos (hb.mpr h14)]
    exact key _ eq
theorem ctalks_ev (hv : v < 5) : f_X7_talks fu (10 * t + v) (lay (70 * t) 54 σ m) = some (talksS σ v, lay (70 * t) 54 σ m) := by
  unfold f_X7_talks f_X7_talks_43 talksS talksP
  simp only [doI_some, doV_some, seqM_eq, chk_t, lc_vget hv (show 0 < 7 by decide), lc_vget hv (show 2 < 7 by decide), some_ite]
theorem cyields_ev (hv : v < 5) : f_X7_yields fu (10 * t + v) (lay (70 * t) 54 σ m) = some (bz (yieldsP (σ (ps v 0))), lay (70 * t) 54 σ m) := by
  unfold f_X7_yields
  simp only [doI_some, doV_some, seqM_eq, chk_t, lc_vget hv (show 0 < 7 by decide), some_ite]
  by_cases h1 : σ (ps v 0) = 1
  · rw [if_pos h1, bz_f (fun z => z.1 h1)]
  · by_cases h3 : σ (ps v 0) = 3
    · rw [if_neg h1, if_pos h3, bz_f (fun z => z.2 h3)]
    · rw [if_neg h1, if_neg h3, bz_t ⟨h1, h3⟩]
theorem nz_of {x : Int32} (h : 1 ≤ x) : nz x = true := decide_eq_true (fun z => by rw [z] at h; exact absurd h (by decide))
theorem cdraw_ev (hx : 1 ≤ x) : f_X4_drawBelow fu t x (lay (70 * t) 54 σ m) = some (irem (ushr (drawZ (σ 0)) 8) x, lay (70 * t) 54 (upd σ 0 (drawZ (σ 0))) m) := by
  unfold f_X4_drawBelow drawZ
  simp only [doI_some, doV_some, seqM_eq, chk_t, lc_get (show 0 < 54 by decide), lc_upd (show 0 < 54 by decide), pk_us, if_pos hx, nz_of hx]
theorem cbegin_ev (hv : v < 5) (h : 1 ≤ talksS σ v) : f_X4_begin fu t (10 * t + v) (lay (70 * t) 54 σ m) = some (lay (70 * t) 54 (beginS σ v) m) := by
  unfold f_X4_begin beginS
  simp only [ctalks_ev hv, doI_some, doV_some, seqM_eq, chk_t, cdraw_ev h, lc_vupd hv (show 4 < 7 by decide), lc_vupd hv (show 5 < 7 by decide), lc_vupd hv (show 6 < 7 by decide), lc_vget hv (show 6 < 7 by decide)]
  simp [upd, ps]
theorem cready_L (hn : n ≤ 5) (h1 : σ 1 = nI n) (hk : VSK n σ) : ∀ (f i : Nat), i ≤ n → n - i < f → f_X4_whoIsReady_4 fu f t (nI (readyN σ i)) (nI i) (lay (70 * t) 54 σ m) = some (nI (readyN σ n), lay (70 * t) 54 σ m) := by
  intro f
  induction f with
  | zero => intro i _ h; omega
  | succ f ih =>
    intro i hi hf
    rw [f_X4_whoIsReady_4]
    simp only [lc_get (show 1 < 54 by decide), h1]
    by_cases he : i = n
    · subst he
      rw [if_pos (nI_le (Nat.le_refl _) (by omega))]
    · have hlt : i < 5 := by omega
      rw [if_neg (nI_ge (by omega) (by omega)), inb_nI hlt (by decide), chk_t, nI_clamp (by omega)]
      have key : ∀ b : Int32, (b = 0 ↔ ¬ σ 14 = nI i) → f_X4_whoIsReady_35 fu (f_X4_whoIsReady_4 fu f) t (nI (readyN σ i)) (nI i) (10 * t + i) (σ 6) b (lay (70 * t) 54 σ m) = some (nI (readyN σ n), lay (70 * t) 54 σ m) := by
        intro b hb
        unfold f_X4_whoIsReady_35 f_X7_isReady f_X4_whoIsReady_47
        simp only [lc_vget hlt (show 0 < 7 by decide), cwaits_ev hlt (hk i (by omega)) hb, doI_some, doV_some, seqM_eq, chk_t, nI_1]
        by_cases h : readyS σ i
        · have e : readyN σ (i + 1) = readyN σ i + 2 ^ i := by rw [readyN, if_pos h]
          rw [if_neg h.1, if_neg h.2, doI_some, if_neg (by decide), or_bit0 i hlt _ (readyN_lt i), ← e]
          exact ih (i + 1) (by omega) (by omega)
        · have e : readyN σ (i + 1) = readyN σ i := by rw [readyN, if_neg h]; rfl
          have hi := ih (i + 1) (by omega) (by omega)
          rw [e] at hi
          by_cases h5 : σ (ps i 0) = 5
          · rw [if_pos h5, doI_some, if_pos rfl]
            exact hi
          · rw [if_neg h5, if_pos (by
              rcases Decidable.em (σ 6 < waitsS σ i) with q | q
              · exact q
              · exact absurd ⟨h5, q⟩ h), doI_some, if_pos rfl]
            exact hi
      simp only [lc_get (show 14 < 54 by decide), lc_get (show 6 < 54 by decide)]
      by_cases h14 : nI i = σ 14
      · rw [if_pos h14]
        exact key 1 ⟨fun z => absurd z (by decide), fun z => absurd h14.symm z⟩
      · rw [if_neg h14]
        exact key 0 ⟨fun _ z => h14 z.symm, fun _ => rfl⟩
theorem cready_ev (hn : n ≤ 5) (hf : 5 < fu) (h1 : σ 1 = nI n) (hk : VSK n σ) : f_X4_whoIsReady fu t (lay (70 * t) 54 σ m) = some (nI (readyN σ n), lay (70 * t) 54 σ m) := cready_L hn h1 hk fu 0 (Nat.zero_le _) (by omega)
theorem cspeak_L (hn : n ≤ 5) (h1 : σ 1 = nI n) : ∀ (f i : Nat), i ≤ n → n - i < f → f_X4_speakers_4 fu f t (nI (speakN σ i)) (nI i) (lay (70 * t) 54 σ m) = some (nI (speakN σ n), lay (70 * t) 54 σ m) := by
  intro f
  induction f with
  | zero => intro i _ h; omega
  | succ f ih =>
    intro i hi hf
    rw [f_X4_speakers_4]
    simp only [lc_get (show 1 < 54 by decide), h1]
    by_cases he : i = n
    · subst he
      rw [if_pos (nI_le (Nat.le_refl _) (by omega))]
    · have hlt : i < 5 := by omega
      rw [if_neg (nI_ge (by omega) (by omega)), inb_nI hlt (by decide), chk_t, nI_clamp (by omega)]
      simp only [lc_vget hlt (show 4 < 7 by decide), f_X4_speakers_30, doI_some, doV_some, seqM_eq, chk_t, nI_1]
      by_cases h : σ (ps i 4) ≤ 0
      · have e : speakN σ (i + 1) = speakN σ i := by rw [speakN, if_neg (by rw [Int32.not_lt]; exact h)]; rfl
        rw [if_pos h, ← e]
        exact ih (i + 1) (by omega) (by omega)
      · have e : speakN σ (i + 1) = speakN σ i + 2 ^ i := by rw [speakN, if_pos (by rw [Int32.not_le] at h; exact h)]
        rw [if_neg h, or_bit0 i hlt _ (speakN_lt i), ← e]
        exact ih (i + 1) (by omega) (by omega)
theorem cspeak_ev (hn : n ≤ 5) (hf : 5 < fu) (h1 : σ 1 = nI n) : f_X4_speakers fu t (lay (70 * t) 54 σ m) = some (nI (speakN σ n), lay (70 * t) 54 σ m) := cspeak_L hn h1 fu 0 (Nat.zero_le _) (by omega)
/-! hear -/
theorem speak0 : speakN σ n = 0 ↔ ∀ v, v < n → ¬ 0 < σ (ps v 4) := by
  induction n with
  | zero => exact ⟨fun _ v h => absurd h (by omega), fun _ => rfl⟩
  | succ n ih =>
    rw [speakN]
    constructor
    · intro h v hv
      by_cases hp : 0 < σ (ps n 4)
      · rw [if_pos hp] at h
        have := Nat.two_pow_pos n
        omega
      · rw [if_neg hp] at h
        rcases Nat.lt_or_ge v n with q | q
        · exact ih.mp (by omega) v q
        · have : v = n := by omega
          subst this
          exact hp
    · intro h
      rw [if_neg (h n (by omega)), ih.mpr (fun v hv => h v (by omega))]
theorem hearN_l {l : Nat} (hl : l ≤ 65) (e : σ (ps v 4) = nI l) : ∀ n, v < n → hearN σ n (ps v 4) = nI (l - 1) := by
  intro n
  induction n with
  | zero => intro h; omega
  | succ n ih =>
    intro h
    rw [hearN]
    by_cases hv : v = n
    · subst hv
      have e2 : hearN σ v (ps v 4) = nI l := by rw [hearN_o (by have := @ps_ge v 4; omega) v (fun u hu z => by have := (ps_inj (by decide) (by decide) z).1; omega), e]
      unfold hearV
      rw [e2]
      have d : ∀ l, l ≤ 65 → (if nI l ≤ 0 then nI l else nI l - 1) = nI (l - 1) := by decide +kernel
      have d0 := d l hl
      split
      · rename_i h0
        rw [if_pos h0] at d0
        rw [e2, d0]
      · rename_i h0
        rw [if_neg h0] at d0
        split
        · rw [pk_un (by have := @ps_ge v 4; omega), pk_us, d0]
        · rw [pk_us, d0]
    · rw [hearV_o (fun z => hv (ps_inj (by decide) (by decide) z).1) (by have := @ps_ge v 4; omega)]
      exact ih (by omega)
theorem chear_L (hn : n ≤ 5) (h1 : σ 1 = nI n) (hk : VSK n σ) : ∀ (f i : Nat) (x1 : Int32), i ≤ n → n - i < f → (x1 = 0 ↔ ¬ ∀ v, v < i → σ (ps v 4) ≤ 1) → f_X4_hear_4 fu f t x1 (nI i) (lay (70 * t) 54 (hearN σ i) m) = some (lay (70 * t) 54 (hearS n σ) m) := by
  intro f
  induction f with
  | zero => intro i _ _ h; omega
  | succ f ih =>
    intro i x1 hi hf hx
    rw [f_X4_hear_4]
    have e1 : hearN σ i 1 = nI n := by rw [hearN_low (by decide) (by decide), h1]
    simp only [lc_get (show 1 < 54 by decide), e1]
    by_cases he : i = n
    · subst he
      rw [if_pos (nI_le (Nat.le_refl _) (by omega))]
      have hflag : x1 = 0 ↔ ¬ speakN (hearN σ i) i = 0 := by
        rw [hx, speak0]
        refine not_congr ⟨fun h v hv => ?_, fun h v hv => ?_⟩
        · obtain ⟨-, -, -, -, ⟨l, hl, el⟩, -⟩ := hk v hv
          have h2 := h v hv
          rw [el] at h2
          rw [hearN_l hl el i hv]
          have d : ∀ l, l ≤ 65 → nI l ≤ 1 → ¬ 0 < nI (l - 1) := by decide +kernel
          exact d l hl h2
        · obtain ⟨-, -, -, -, ⟨l, hl, el⟩, -⟩ := hk v hv
          have h2 := h v hv
          rw [hearN_l hl el i hv] at h2
          rw [el]
          have d : ∀ l, l ≤ 65 → ¬ 0 < nI (l - 1) → nI l ≤ 1 := by decide +kernel
          exact d l hl h2
      unfold hearS stillS
      simp only [doI_some, doV_some, seqM_eq, chk_t, lc_get (show 6 < 54 by decide), lc_get (show 7 < 54 by decide), lc_get (show 8 < 54 by decide), lc_upd (show 6 < 54 by decide), lc_upd (show 7 < 54 by decide), lc_upd (show 8 < 54 by decide)]
      generalize hearN σ i = τ at hflag ⊢
      by_cases h0 : x1 = 0
      · rw [if_pos h0, if_neg (hflag.mp h0)]
      · have hs : speakN τ i = 0 := by
          rcases Decidable.em (speakN τ i = 0) with q | q
          · exact q
          · exact absurd (hflag.mpr q) h0
        rw [if_neg h0, if_pos hs]
        have a7 : (upd τ 6 (τ 6 + 1)) 7 = τ 7 := pk_un (by decide)
        rw [a7]
        have a6 : (upd (upd τ 6 (τ 6 + 1)) 7 (τ 7 + 1)) 6 = τ 6 + 1 := by rw [pk_un (by decide), pk_us]
        have a8 : (upd (upd τ 6 (τ 6 + 1)) 7 (τ 7 + 1)) 8 = τ 8 := by rw [pk_un (by decide), pk_un (by decide)]
        rw [a6, a8]
        by_cases hc : τ 6 + 1 ≤ τ 8
        · rw [if_neg (by rw [Int32.not_lt]; exact hc), if_pos hc]
        · rw [if_pos (by rw [Int32.not_le] at hc; exact hc), if_neg hc]
    · have hlt : i < 5 := by omega
      rw [if_neg (nI_ge (by omega) (by omega)), inb_nI hlt (by decide), chk_t, nI_clamp (by omega)]
      simp only [lc_vget hlt (show 4 < 7 by decide), lc_vupd hlt (show 4 < 7 by decide), lc_upd (show 14 < 54 by decide), f_X4_hear_60, doI_some, doV_some, seqM_eq, chk_t, nI_1]
      obtain ⟨-, -, -, -, ⟨l, hl, el⟩, -⟩ := hk i (by omega)
      have e4 : hearN σ i (ps i 4) = nI l := by rw [hearN_o (by have := @ps_ge i 4; omega) i (fun u hu z => by have := (ps_inj (by decide) (by decide) z).1; omega), el]
      have hnx : ∀ x2 : Int32, (x2 = 0 ↔ ¬ ∀ v, v < i + 1 → σ (ps v 4) ≤ 1) → f_X4_hear_4 fu f t x2 (nI (i + 1)) (lay (70 * t) 54 (hearV (hearN σ i) i) m) = some (lay (70 * t) 54 (hearS n σ) m) := fun x2 h2 => ih (i + 1) x2 (by omega) (by omega) h2
      unfold hearV at hnx
      rw [e4] at hnx ⊢
      by_cases hle : nI l ≤ 1
      · rw [if_pos hle]
        have hx2 : x1 = 0 ↔ ¬ ∀ v, v < i + 1 → σ (ps v 4) ≤ 1 := by
          rw [hx]
          refine not_congr ⟨fun h v hv => ?_, fun h v hv => h v (by omega)⟩
          rcases Nat.lt_or_ge v i with q | q
          · exact h v q
          · have : v = i := by omega
            subst this
            rw [el]; exact hle
        by_cases h11 : nI l = 1
        · rw [if_pos h11]
          have hh := hnx x1 hx2
          rw [h11, if_neg (by decide), if_pos (by decide), show (1 : Int32) - 1 = 0 by decide] at hh
          exact hh
        · rw [if_neg h11]
          have hh := hnx x1 hx2
          have d : ∀ l, l ≤ 65 → nI l ≤ 1 → ¬ nI l = 1 → nI l ≤ 0 := by decide +kernel
          rw [if_pos (d l hl hle h11)] at hh
          exact hh
      · rw [if_neg hle]
        have hh := hnx 0 ⟨fun _ h => hle (by rw [← el]; exact h i (by omega)), fun _ => rfl⟩
        have d : ∀ l, l ≤ 65 → ¬ nI l ≤ 1 → ¬ nI l ≤ 0 ∧ ¬ nI l - 1 = 0 := by decide +kernel
        rw [if_neg (d l hl hle).1, if_neg (d l hl hle).2] at hh
        exact hh
theorem chear_ev (hn : n ≤ 5) (hf : 5 < fu) (h1 : σ 1 = nI n) (hk : VSK n σ) : f_X4_hear fu t (lay (70 * t) 54 σ m) = some (lay (70 * t) 54 (hearS n σ) m) :=
  chear_L hn h1 hk fu 0 1 (Nat.zero_le _) (by omega) ⟨fun z => absurd z (by decide), fun z => absurd (fun v hv => absurd hv (by omega)) z⟩
end CROW
