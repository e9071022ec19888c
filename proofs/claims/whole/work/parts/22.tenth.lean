/-! PURE: a tenth on a row, and the reference's tenth -/
def crossV (R : Nat) (σ : Row) (v : Nat) : Row := if R.testBit v = true then (if yieldsP (σ (ps v 0)) then backS σ v else beginS σ v) else σ
def crossN (R : Nat) (σ : Row) : Nat → Row
  | 0 => σ
  | n + 1 => crossV R (crossN R σ n) n
def crossS (n R : Nat) (σ : Row) : Row := upd (crossN R (upd σ 11 (σ 11 + 1)) n) 6 (if speakN (crossN R (upd σ 11 (σ 11 + 1)) n) n = 0 then 0 else crossN R (upd σ 11 (σ 11 + 1)) n 6)
def turnV (R : Nat) (σ : Row) (v : Nat) : Row := if R = 2 ^ v then (if σ 14 = nI v then beginS (upd σ 9 (σ 9 + 1)) v else beginS (upd σ 10 (σ 10 + 1)) v) else σ
def turnN (R : Nat) (σ : Row) : Nat → Row
  | 0 => σ
  | n + 1 => turnV R (turnN R σ n) n
def hearV (σ : Row) (v : Nat) : Row := if σ (ps v 4) ≤ 0 then σ else if σ (ps v 4) - 1 = 0 then upd (upd σ (ps v 4) (σ (ps v 4) - 1)) 14 (nI v) else upd σ (ps v 4) (σ (ps v 4) - 1)
def hearN (σ : Row) : Nat → Row
  | 0 => σ
  | n + 1 => hearV (hearN σ n) n
/-- (1) and (2) -/
def stillS (n : Nat) (σ : Row) : Row := if speakN σ n = 0 then upd (upd (upd σ 6 (σ 6 + 1)) 7 (σ 7 + 1)) 8 (if σ 6 + 1 ≤ σ 8 then σ 8 else σ 6 + 1) else upd σ 6 0
def hearS (n : Nat) (σ : Row) : Row := stillS n (hearN σ n)
def clampO (o l : Int32) : Int32 := if 0 ≤ o then (if o ≤ l then o else l) else 0
abbrev Off : Type := Int32 → Int32 → Int32 → Int32
def bearS (off : Off) (σ : Row) : Row := if ¬ σ 4 = 0 ∧ σ 6 = σ 4 then upd (upd (upd σ 5 (clampO (σ 5 - σ 12) 9999)) 12 (σ 12 + 1)) 6 0 else if ¬ σ 3 = 0 ∧ ¬ σ 6 < σ 3 then upd (upd (upd σ 5 (σ 5 / 2)) 13 (σ 13 + 1)) 6 0 else upd σ 5 (σ 5 - clampO (off (σ 6) (σ 5) (σ 8)) (σ 5))
/-- (3) -/
def actS (n : Nat) (σ : Row) : Row := if nI (readyN σ n) &&& (nI (readyN σ n) - 1) = 0 then turnN (readyN σ n) σ n else crossS n (readyN σ n) σ
/-- (4) -/
def lastS (off : Off) (n : Nat) (σ : Row) : Row := if speakN σ n = 0 ∧ ¬ σ 6 = 0 then bearS off σ else σ
def tickS (σ : Row) : Row := upd σ 2 (σ 2 + 1)
def goOnS (off : Off) (n : Nat) (σ : Row) : Row := tickS (lastS off n (if speakN σ n = 0 then actS n σ else σ))
def tenthS (off : Off) (n : Nat) (σ : Row) : Row := goOnS off n (hearS n σ)
/-- no voice talks for 0 -/
def TOK (n : Nat) (σ : Row) : Prop := ∀ v, v < n → ¬ talksS σ v = 0
theorem ps_ne {u v j k : Nat} (hj : j < 7) (hk : k < 7) (h : j ≠ k) : ps u j ≠ ps v k := by unfold ps; omega
theorem ps_inj {u v j k : Nat} (hj : j < 7) (hk : k < 7) (h : ps u j = ps v k) : u = v ∧ j = k := by unfold ps at h; omega
theorem ps_ge {v j : Nat} : 16 ≤ ps v j := by unfold ps; omega
theorem beginS_o {σ : Row} {u q : Nat} (h0 : q ≠ 0) (h4 : q ≠ ps u 4) (h5 : q ≠ ps u 5) (h6 : q ≠ ps u 6) : beginS σ u q = σ q := by
  unfold beginS; rw [pk_un h5, pk_un h6, pk_un h4, pk_un h0]
theorem backS_o {σ : Row} {u q : Nat} (h0 : q ≠ 0) (h5 : q ≠ ps u 5) : backS σ u q = σ q := by
  unfold backS; rw [pk_un h5, pk_un h0]
theorem beginS_4 {σ : Row} {u : Nat} : beginS σ u (ps u 4) = 1 + irem (ushr (drawZ (σ 0)) 8) (talksS σ u) := by
  unfold beginS; rw [pk_un (ps_ne (by decide) (by decide) (by decide)), pk_un (ps_ne (by decide) (by decide) (by decide)), pk_us]
theorem crossV_o {R : Nat} {σ : Row} {u q : Nat} (h0 : q ≠ 0) (h4 : q ≠ ps u 4) (h5 : q ≠ ps u 5) (h6 : q ≠ ps u 6) : crossV R σ u q = σ q := by
  unfold crossV
  split
  · split
    · exact backS_o h0 h5
    · exact beginS_o h0 h4 h5 h6
  · rfl
theorem crossN_o {R : Nat} {σ : Row} {q : Nat} (h0 : q ≠ 0) : ∀ n, (∀ u, u < n → q ≠ ps u 4 ∧ q ≠ ps u 5 ∧ q ≠ ps u 6) → crossN R σ n q = σ q := by
  intro n
  induction n with
  | zero => intro _; rfl
  | succ n ih =>
    intro h
    rw [crossN, crossV_o h0 (h n (by omega)).1 (h n (by omega)).2.1 (h n (by omega)).2.2]
    exact ih (fun u hu => h u (by omega))
theorem crossN_low {R : Nat} {σ : Row} {q n : Nat} (h0 : q ≠ 0) (hq : q < 16) : crossN R σ n q = σ q :=
  crossN_o h0 n (fun u _ => by have := @ps_ge u 4; have := @ps_ge u 5; have := @ps_ge u 6; refine ⟨?_, ?_, ?_⟩ <;> omega)
theorem crossN_f {R : Nat} {σ : Row} {v j n : Nat} (hj : j < 4) : crossN R σ n (ps v j) = σ (ps v j) :=
  crossN_o (by have := @ps_ge v j; omega) n (fun u _ => ⟨ps_ne (by omega) (by decide) (by omega), ps_ne (by omega) (by decide) (by omega), ps_ne (by omega) (by decide) (by omega)⟩)
theorem talksS_congr {σ τ : Row} {v : Nat} (h0 : τ (ps v 0) = σ (ps v 0)) (h2 : τ (ps v 2) = σ (ps v 2)) : talksS τ v = talksS σ v := by unfold talksS; rw [h0, h2]
theorem bit_M : ∀ i, i < 5 → ∀ R, R < 32 → (((nI R >>> (nI i &&& 31)) &&& 1) = 1 ↔ R.testBit i = true) := by decide +kernel
theorem pow_lt5 {i : Nat} (h : i < 5) : 2 ^ i < 32 := by
  have : ∀ k, k < 5 → 2 ^ k < 32 := by decide
  exact this i h
section MTENTH
variable {fu n R : Nat} {σ : Row} {m : Mem} {off : Off}
theorem mcross_L (hn : n ≤ 5) (hf : 5 < fu) (h1 : σ 1 = nI n) (hR : R < 32) (ht : TOK n σ) : ∀ (f i : Nat), i ≤ n → n - i < f → f_X9_crosses_13 fu f (nI R) (nI i) (lay 4000 51 (crossN R σ i) m) = some (lay 4000 51 (upd (crossN R σ n) 6 (if speakN (crossN R σ n) n = 0 then 0 else crossN R σ n 6)) m) := by
  intro f
  induction f with
  | zero => intro i _ h; omega
  | succ f ih =>
    intro i hi hf2
    rw [f_X9_crosses_13]
    have e1 : crossN R σ i 1 = nI n := by rw [crossN_low (by decide) (by decide), h1]
    simp only [Nat.reduceMul, Nat.reduceAdd, Int32.reduceToNatClampNeg, lm_1, e1]
    by_cases he : i = n
    · subst he
      rw [if_pos (nI_le (Nat.le_refl _) (by omega)), mspeak_ev hn e1 hf]
      simp only [doI_some, doV_some, seqM_eq, chk_t, f_X9_crosses_91, Nat.reduceMul, Nat.reduceAdd, Int32.reduceToNatClampNeg, lm_6, lmu_6]
      by_cases hs : speakN (crossN R σ i) i = 0
      · rw [if_pos hs, hs, if_pos (by decide)]
      · rw [if_neg hs, if_neg (nI_ne0 (by omega) (Nat.lt_trans (speakN_lt i) (Nat.lt_of_le_of_lt (Nat.pow_le_pow_right (by decide) hn) (by decide))))]
    · have hlt : i < 5 := by omega
      rw [if_neg (nI_ge (by omega) (by omega))]
      have et : talksS (crossN R σ i) i = talksS σ i := talksS_congr (crossN_f (by decide)) (crossN_f (by decide))
      have hnext := ih (i + 1) (by omega) (by omega)
      rw [crossN] at hnext
      by_cases hb : R.testBit i = true
      · rw [if_pos ((bit_M i hlt R hR).mpr hb), myield_ev hlt]
        simp only [doI_some, doV_some, seqM_eq, chk_t, bz0, f_X9_crosses_61, nI_1]
        by_cases hy : yieldsP (crossN R σ i (ps i 0))
        · rw [if_neg (fun z => z hy)]
          simp only [mdraw_ev, doI_some, doV_some, seqM_eq, chk_t, put_5 hlt]
          rw [crossV, if_pos hb, if_pos hy, backS] at hnext
          exact hnext
        · rw [if_pos hy, mbegins_ev hlt (by rw [et]; exact ht i (by omega))]
          simp only [doI_some, doV_some, seqM_eq, chk_t]
          rw [crossV, if_pos hb, if_neg hy] at hnext
          exact hnext
      · rw [if_neg (fun z => hb ((bit_M i hlt R hR).mp z))]
        simp only [f_X9_crosses_61, doI_some, doV_some, seqM_eq, chk_t, nI_1]
        rw [crossV, if_neg hb] at hnext
        exact hnext
theorem mcross_ev (hn : n ≤ 5) (hf : 5 < fu) (h1 : σ 1 = nI n) (hR : R < 32) (ht : TOK n σ) : f_X9_crosses fu (nI R) (lay 4000 51 σ m) = some (lay 4000 51 (crossS n R σ) m) := by
  unfold f_X9_crosses crossS
  simp only [doI_some, doV_some, seqM_eq, chk_t, Nat.reduceMul, Nat.reduceAdd, Int32.reduceToNatClampNeg, lm_11, lmu_11]
  have h1' : (upd σ 11 (σ 11 + 1)) 1 = nI n := by rw [pk_un (by decide), h1]
  have ht' : TOK n (upd σ 11 (σ 11 + 1)) := by
    intro v hv
    have e : talksS (upd σ 11 (σ 11 + 1)) v = talksS σ v := talksS_congr (pk_un (by have := @ps_ge v 0; omega)) (pk_un (by have := @ps_ge v 2; omega))
    rw [e]
    exact ht v hv
  exact mcross_L hn hf h1' hR ht' fu 0 (Nat.zero_le _) (by omega)
theorem turnV_o {σ : Row} {u q : Nat} (h0 : q ≠ 0) (h9 : q ≠ 9) (h10 : q ≠ 10) (h4 : q ≠ ps u 4) (h5 : q ≠ ps u 5) (h6 : q ≠ ps u 6) : turnV R σ u q = σ q := by
  unfold turnV
  split
  · split
    · rw [beginS_o h0 h4 h5 h6, pk_un h9]
    · rw [beginS_o h0 h4 h5 h6, pk_un h10]
  · rfl
theorem turnN_o {q : Nat} (h0 : q ≠ 0) (h9 : q ≠ 9) (h10 : q ≠ 10) : ∀ n, (∀ u, u < n → q ≠ ps u 4 ∧ q ≠ ps u 5 ∧ q ≠ ps u 6) → turnN R σ n q = σ q := by
  intro n
  induction n with
  | zero => intro _; rfl
  | succ n ih =>
    intro h
    rw [turnN, turnV_o h0 h9 h10 (h n (by omega)).1 (h n (by omega)).2.1 (h n (by omega)).2.2]
    exact ih (fun u hu => h u (by omega))
theorem turnN_low {q : Nat} (h0 : q ≠ 0) (h9 : q ≠ 9) (h10 : q ≠ 10) (hq : q < 16) : turnN R σ n q = σ q :=
  turnN_o h0 h9 h10 n (fun u _ => by have := @ps_ge u 4; have := @ps_ge u 5; have := @ps_ge u 6; refine ⟨?_, ?_, ?_⟩ <;> omega)
theorem turnN_f {v j : Nat} (hj : j < 4) : turnN R σ n (ps v j) = σ (ps v j) :=
  turnN_o (by have := @ps_ge v j; omega) (by have := @ps_ge v j; omega) (by have := @ps_ge v j; omega) n (fun u _ => ⟨ps_ne (by omega) (by decide) (by omega), ps_ne (by omega) (by decide) (by omega), ps_ne (by omega) (by decide) (by omega)⟩)
theorem mturn_L (hn : n ≤ 5) (h1 : σ 1 = nI n) (hR : R < 32) (ht : TOK n σ) : ∀ (f i : Nat), i ≤ n → n - i < f → f_X9_turnsTo_2 fu f (nI R) (nI i) (lay 4000 51 (turnN R σ i) m) = some (lay 4000 51 (turnN R σ n) m) := by
  intro f
  induction f with
  | zero => intro i _ h; omega
  | succ f ih =>
    intro i hi hf2
    rw [f_X9_turnsTo_2]
    have e1 : turnN R σ i 1 = nI n := by rw [turnN_low (by decide) (by decide) (by decide) (by decide), h1]
    simp only [Nat.reduceMul, Nat.reduceAdd, Int32.reduceToNatClampNeg, lm_1, e1]
    by_cases he : i = n
    · subst he
      rw [if_pos (nI_le (Nat.le_refl _) (by omega))]
    · have hlt : i < 5 := by omega
      rw [if_neg (nI_ge (by omega) (by omega)), bit_eq i hlt]
      have et : ∀ q x, q < 16 → talksS (upd (turnN R σ i) q x) i = talksS σ i := fun q x hq => talksS_congr (by rw [pk_un (by have := @ps_ge i 0; omega), turnN_f (by decide)]) (by rw [pk_un (by have := @ps_ge i 2; omega), turnN_f (by decide)])
      have hnext := ih (i + 1) (by omega) (by omega)
      rw [turnN] at hnext
      have hp := pow_lt5 hlt
      by_cases hb : R = 2 ^ i
      · rw [if_pos (by rw [hb])]
        rw [turnV, if_pos hb] at hnext
        simp only [Nat.reduceMul, Nat.reduceAdd, Int32.reduceToNatClampNeg, lm_14, f_X9_turnsTo_41, show inb 9 1423 = true by decide, show inb 10 1423 = true by decide, doI_some, doV_some, seqM_eq, chk_t, lm_9, lmu_9, lm_10, lmu_10]
        by_cases h14 : turnN R σ i 14 = nI i
        · rw [if_pos h14, mbegins_ev hlt (by rw [et _ _ (by decide)]; exact ht i (by omega))]
          rw [if_pos h14] at hnext
          simp only [doI_some, doV_some, seqM_eq, chk_t, f_X9_turnsTo_51, nI_1]
          exact hnext
        · rw [if_neg h14, mbegins_ev hlt (by rw [et _ _ (by decide)]; exact ht i (by omega))]
          rw [if_neg h14] at hnext
          simp only [doI_some, doV_some, seqM_eq, chk_t, f_X9_turnsTo_51, nI_1]
          exact hnext
      · rw [if_neg (fun z => hb ((nI_eq (by omega) (by omega)).mp z))]
        rw [turnV, if_neg hb] at hnext
        simp only [doI_some, doV_some, seqM_eq, chk_t, f_X9_turnsTo_51, nI_1]
        exact hnext
theorem mturn_ev (hn : n ≤ 5) (hf : 5 < fu) (h1 : σ 1 = nI n) (hR : R < 32) (ht : TOK n σ) : f_X9_turnsTo fu (nI R) (lay 4000 51 σ m) = some (lay 4000 51 (turnN R σ n) m) :=
  mturn_L hn h1 hR ht fu 0 (Nat.zero_le _) (by omega)
theorem mwithin_ev {x l : Int32} : f_X9_within fu x 0 l m = some (clampO x l, m) := by
  unfold f_X9_within clampO
  simp only [some_ite]
end MTENTH
/-- the reference's scratch: the stack, the facts, what was heard last -/
def SM (m m' : Mem) : Prop := ∀ k, ¬ (3700 ≤ k ∧ k < 3804) → k ≠ 3001 → m' k = m k
theorem SM.refl {m : Mem} : SM m m := fun _ _ _ => rfl
theorem SM.trans {a b c : Mem} (h1 : SM a b) (h2 : SM b c) : SM a c := fun k q1 q2 => (h2 k q1 q2).trans (h1 k q1 q2)
theorem SM.up {m : Mem} {x : Int32} : SM m (upd m 3001 x) := fun _ _ h => pk_un h
/-- what off gives in the reference, whatever the row is (but for the number of texts) -/
def OffM (fu : Nat) (m : Mem) (T : Int32) (off : Off) : Prop := ∀ (σ : Row) (m1 : Mem), σ 15 = T → SM m m1 → ∃ m2, SM m1 m2 ∧ f_X9_offGives fu (lay 4000 51 σ m1) = some (clampO (off (σ 6) (σ 5) (σ 8)) (σ 5), lay 4000 51 σ m2) ∧ m2 3001 = m1 3001
theorem OffM.moved {fu : Nat} {m m1 : Mem} {T : Int32} {off : Off} (h : OffM fu m T off) (hs : SM m m1) : OffM fu m1 T off := fun σ m2 h1 h2 => h σ m2 h1 (hs.trans h2)

section MTENTH2
variable {fu n R : Nat} {σ : Row} {m : Mem} {off : Off} {T : Int32}
theorem mbear_ev (ho : OffM fu m T off) (hT : σ 15 = T) : ∃ m2, SM m m2 ∧ f_X9_hearsNothing fu (lay 4000 51 σ m) = some (lay 4000 51 (bearS off σ) m2) ∧ m2 3001 = m 3001 := by
  have h131 : ∃ m2, SM m m2 ∧ f_X9_hearsNothing_131 fu (lay 4000 51 σ m) = some (lay 4000 51 (upd σ 5 (σ 5 - clampO (off (σ 6) (σ 5) (σ 8)) (σ 5))) m2) ∧ m2 3001 = m 3001 := by
    obtain ⟨m2, h1, h2, h3⟩ := ho σ m hT SM.refl
    refine ⟨m2, h1, ?_, h3⟩
    unfold f_X9_hearsNothing_131
    rw [h2]
    simp only [doI_some, doV_some, seqM_eq, chk_t, Nat.reduceMul, Nat.reduceAdd, Int32.reduceToNatClampNeg, lm_5, lmu_5]
  have h74 : ¬ (¬ σ 4 = 0 ∧ σ 6 = σ 4) → ∃ m2, SM m m2 ∧ f_X9_hearsNothing_74 fu (lay 4000 51 σ m) = some (lay 4000 51 (bearS off σ) m2) ∧ m2 3001 = m 3001 := by
    intro hno
    unfold f_X9_hearsNothing_74 bearS
    simp only [doI_some, doV_some, seqM_eq, chk_t, Nat.reduceMul, Nat.reduceAdd, Int32.reduceToNatClampNeg, lm_3, lm_5, lm_6, lm_13, lmu_5, lmu_13, lmu_6, if_neg hno]
    by_cases h3 : σ 3 = 0
    · rw [if_pos h3, if_neg (fun z => z.1 h3)]
      exact h131
    · rw [if_neg h3]
      by_cases h6 : σ 6 < σ 3
      · rw [if_pos h6, if_neg (fun z => z.2 h6)]
        exact h131
      · rw [if_neg h6, if_pos ⟨h3, h6⟩]
        exact ⟨m, SM.refl, rfl, rfl⟩
  unfold f_X9_hearsNothing
  simp only [doI_some, doV_some, seqM_eq, chk_t, Nat.reduceMul, Nat.reduceAdd, Int32.reduceToNatClampNeg, lm_4, lm_5, lm_6, lm_12, lmu_5, lmu_12, lmu_6, mwithin_ev]
  by_cases h4 : σ 4 = 0
  · rw [if_pos h4]
    exact h74 (fun z => z.1 h4)
  · rw [if_neg h4]
    by_cases h6 : σ 6 = σ 4
    · rw [if_pos h6]
      refine ⟨m, SM.refl, ?_, rfl⟩
      unfold bearS
      rw [if_pos ⟨h4, h6⟩]
      rfl
    · rw [if_neg h6]
      exact h74 (fun z => h6 z.2)
theorem mask_ne0 {k : Nat} (hn : n ≤ 5) (hk : k < 2 ^ n) (h : ¬ k = 0) : ¬ nI k = 0 := nI_ne0 (by omega) (Nat.lt_trans hk (Nat.lt_of_le_of_lt (Nat.pow_le_pow_right (by decide) hn) (by decide)))
theorem mlast_ev (hn : n ≤ 5) (hf : 5 < fu) (h1 : σ 1 = nI n) (ho : OffM fu m T off) (hT : σ 15 = T) : ∃ m2, SM m m2 ∧ f_X9_tenth_206 fu (lay 4000 51 σ m) = some (lay 4000 51 (tickS (lastS off n σ)) m2) ∧ m2 3001 = m 3001 := by
  unfold f_X9_tenth_206 lastS tickS
  rw [mspeak_ev hn h1 hf]
  simp only [doI_some, doV_some, seqM_eq, chk_t, Nat.reduceMul, Nat.reduceAdd, Int32.reduceToNatClampNeg, lm_6, f_X9_tenth_227]
  by_cases hs : speakN σ n = 0
  · rw [hs, if_pos (by decide)]
    by_cases h6 : σ 6 = 0
    · rw [if_pos h6, if_neg (fun z => z.2 h6)]
      simp only [lm_2, lmu_2]
      exact ⟨m, SM.refl, rfl, rfl⟩
    · rw [if_neg h6, if_pos ⟨rfl, h6⟩]
      obtain ⟨m2, q1, q2, q3⟩ := mbear_ev ho hT
      rw [q2]
      simp only [doI_some, doV_some, seqM_eq, chk_t, lm_2, lmu_2]
      exact ⟨m2, q1, rfl, q3⟩
  · rw [if_neg (mask_ne0 hn (speakN_lt n) hs), if_neg (fun z => hs z.1)]
    simp only [lm_2, lmu_2]
    exact ⟨m, SM.refl, rfl, rfl⟩
theorem hearV_o {u q : Nat} (h4 : q ≠ ps u 4) (h14 : q ≠ 14) : hearV σ u q = σ q := by
  unfold hearV
  split
  · rfl
  · split
    · rw [pk_un h14, pk_un h4]
    · rw [pk_un h4]
theorem hearN_o {q : Nat} (h14 : q ≠ 14) : ∀ n, (∀ u, u < n → q ≠ ps u 4) → hearN σ n q = σ q := by
  intro n
  induction n with
  | zero => intro _; rfl
  | succ n ih =>
    intro h
    rw [hearN, hearV_o (h n (by omega)) h14]
    exact ih (fun u hu => h u (by omega))
theorem hearN_low {q : Nat} (h14 : q ≠ 14) (hq : q < 16) : hearN σ n q = σ q := hearN_o h14 n (fun u _ => by have := @ps_ge u 4; omega)
theorem hearN_f {v j : Nat} (hj : j < 7) (h4 : j ≠ 4) : hearN σ n (ps v j) = σ (ps v j) := hearN_o (by have := @ps_ge v j; omega) n (fun u _ => ps_ne hj (by decide) h4)
theorem stillS_o {q : Nat} (h6 : q ≠ 6) (h7 : q ≠ 7) (h8 : q ≠ 8) : stillS n σ q = σ q := by
  unfold stillS
  split
  · rw [pk_un h8, pk_un h7, pk_un h6]
  · rw [pk_un h6]
theorem stillS_speak (k : Nat) : speakN (stillS n σ) k = speakN σ k := by
  induction k with
  | zero => rfl
  | succ k ih =>
    have e : stillS n σ (ps k 4) = σ (ps k 4) := stillS_o (by have := @ps_ge k 4; omega) (by have := @ps_ge k 4; omega) (by have := @ps_ge k 4; omega)
    rw [speakN, speakN, ih, e]
theorem tok_low {τ : Row} (ht : TOK n σ) (h : ∀ v j, v < n → j < 4 → τ (ps v j) = σ (ps v j)) : TOK n τ := by
  intro v hv
  rw [talksS_congr (h v 0 hv (by decide)) (h v 2 hv (by decide))]
  exact ht v hv
theorem actS_o {q : Nat} (h0 : q ≠ 0) (h9 : q ≠ 9) (h10 : q ≠ 10) (h11 : q ≠ 11) (h6 : q ≠ 6) (h : ∀ u, u < n → q ≠ ps u 4 ∧ q ≠ ps u 5 ∧ q ≠ ps u 6) : actS n σ q = σ q := by
  unfold actS
  split
  · exact turnN_o h0 h9 h10 n h
  · unfold crossS
    rw [pk_un h6, crossN_o h0 n h, pk_un h11]
/-- behind (1) and (2) -/
theorem mgoOn_ev (hn : n ≤ 5) (hf : 5 < fu) (h1 : σ 1 = nI n) (ho : OffM fu m T off) (hT : σ 15 = T) (ht : TOK n σ) {x1 : Int32} (hx : x1 = 0 ↔ ¬ speakN σ n = 0) : ∃ m2, SM m m2 ∧ (if x1 = 0 then (f_X9_tenth_206 fu (lay 4000 51 σ m)) else (doI (f_X9_ready fu (lay 4000 51 σ m)) (fun r_7 m_6 => if (r_7 &&& (r_7 - 1)) = 0 then (doV (f_X9_turnsTo fu r_7 m_6) (fun m_9 => f_X9_tenth_206 fu m_9)) else (doV (f_X9_crosses fu r_7 m_6) (fun m_11 => f_X9_tenth_206 fu m_11))))) = some (lay 4000 51 (goOnS off n σ) m2) ∧ m2 3001 = m 3001 := by
  unfold goOnS
  by_cases hs : speakN σ n = 0
  · rw [if_neg (fun z => (hx.mp z) hs), if_pos hs, mready_ev hn h1 hf]
    simp only [doI_some, doV_some, seqM_eq, chk_t]
    have hR : readyN σ n < 32 := Nat.lt_of_lt_of_le (readyN_lt n) (Nat.pow_le_pow_right (by decide) hn : 2 ^ n ≤ 2 ^ 5)
    have key : f_X9_tenth_206 fu (lay 4000 51 (actS n σ) m) = f_X9_tenth_206 fu (lay 4000 51 (actS n σ) m) := rfl
    have a1 : actS n σ 1 = nI n := by rw [actS_o (by decide) (by decide) (by decide) (by decide) (by decide) (fun u _ => by have := @ps_ge u 4; have := @ps_ge u 5; have := @ps_ge u 6; refine ⟨?_, ?_, ?_⟩ <;> omega), h1]
    have a15 : actS n σ 15 = T := by rw [actS_o (by decide) (by decide) (by decide) (by decide) (by decide) (fun u _ => by have := @ps_ge u 4; have := @ps_ge u 5; have := @ps_ge u 6; refine ⟨?_, ?_, ?_⟩ <;> omega), hT]
    obtain ⟨m2, q1, q2, q3⟩ := mlast_ev (σ := actS n σ) hn hf a1 ho a15
    refine ⟨m2, q1, ?_, q3⟩
    rw [← q2]
    unfold actS
    by_cases hm : nI (readyN σ n) &&& (nI (readyN σ n) - 1) = 0
    · rw [if_pos hm, if_pos hm, mturn_ev hn hf h1 hR ht, doV_some]
    · rw [if_neg hm, if_neg hm, mcross_ev hn hf h1 hR ht, doV_some]
  · rw [if_pos (hx.mpr hs), if_neg hs]
    exact mlast_ev hn hf h1 ho hT
theorem mtenth_L (hn : n ≤ 5) (hf : 5 < fu) (h1 : σ 1 = nI n) : ∀ (f i : Nat), i ≤ n → n - i < f → f_X9_tenth_2 fu f (nI i) (lay 4000 51 (hearN σ i) m) = (if nI (speakN (hearN σ n) n) = 0 then (f_X9_tenth_80 fu 1 (lay 4000 51 (hearN σ n) m)) else (f_X9_tenth_80 fu 0 (lay 4000 51 (hearN σ n) m))) := by
  intro f
  induction f with
  | zero => intro i _ h; omega
  | succ f ih =>
    intro i hi hf2
    rw [f_X9_tenth_2]
    have e1 : hearN σ i 1 = nI n := by rw [hearN_low (by decide) (by decide), h1]
    simp only [Nat.reduceMul, Nat.reduceAdd, Int32.reduceToNatClampNeg, lm_1, e1]
    by_cases he : i = n
    · subst he
      rw [if_pos (nI_le (Nat.le_refl _) (by omega)), mspeak_ev hn e1 hf]
      simp only [doI_some, doV_some, seqM_eq, chk_t]
    · have hlt : i < 5 := by omega
      rw [if_neg (nI_ge (by omega) (by omega))]
      have hnext := ih (i + 1) (by omega) (by omega)
      rw [hearN, hearV] at hnext
      simp only [of_4 hlt, doI_some, doV_some, seqM_eq, chk_t, put_4 hlt, f_X9_tenth_61, f_X9_tenth_62, nI_1, pk_us, Nat.reduceMul, Nat.reduceAdd, Int32.reduceToNatClampNeg, lm_14, lmu_14]
      by_cases h0 : hearN σ i (ps i 4) ≤ 0
      · rw [if_pos h0]
        rw [if_pos h0] at hnext
        exact hnext
      · rw [if_neg h0]
        rw [if_neg h0] at hnext
        by_cases hz : hearN σ i (ps i 4) - 1 = 0
        · rw [if_pos hz]
          rw [if_pos hz] at hnext
          exact hnext
        · rw [if_neg hz, upd_self]
          rw [if_neg hz] at hnext
          exact hnext
theorem mtenth_ev (hn : n ≤ 5) (hf : 5 < fu) (h1 : σ 1 = nI n) (h8 : 0 ≤ σ 8) (ho : OffM fu m T off) (hT : σ 15 = T) (ht : TOK n σ) : ∃ m2, SM m m2 ∧ f_X9_tenth fu (lay 4000 51 σ m) = some (lay 4000 51 (tenthS off n σ) m2) ∧ m2 3001 = hearS n σ 6 := by
  have hL := mtenth_L (m := m) hn hf h1 fu 0 (Nat.zero_le _) (by omega)
  unfold f_X9_tenth
  rw [hearN] at hL
  rw [show (0 : Int32) = nI 0 from rfl, hL]
  unfold tenthS
  have e1 : hearS n σ 1 = nI n := by unfold hearS; rw [stillS_o (by decide) (by decide) (by decide), hearN_low (by decide) (by decide), h1]
  have e15 : hearS n σ 15 = T := by unfold hearS; rw [stillS_o (by decide) (by decide) (by decide), hearN_low (by decide) (by decide), hT]
  have et : TOK n (hearS n σ) := tok_low ht (fun v j hv hj => by unfold hearS; rw [stillS_o (by have := @ps_ge v j; omega) (by have := @ps_ge v j; omega) (by have := @ps_ge v j; omega), hearN_f (by omega) (by omega)])
  have es : speakN (hearS n σ) n = speakN (hearN σ n) n := stillS_speak n
  have key : ∀ x1 : Int32, (x1 = 0 ↔ ¬ speakN (hearN σ n) n = 0) → ∃ m2, SM m m2 ∧ f_X9_tenth_80 fu x1 (lay 4000 51 (hearN σ n) m) = some (lay 4000 51 (goOnS off n (hearS n σ)) m2) ∧ m2 3001 = hearS n σ 6 := by
    intro x1 hx
    have ho2 := ho.moved (SM.up (x := hearS n σ 6))
    obtain ⟨m2, q1, q2, q3⟩ := mgoOn_ev (σ := hearS n σ) (x1 := x1) hn hf e1 ho2 e15 et (by rw [es]; exact hx)
    refine ⟨m2, SM.up.trans q1, ?_, by rw [q3, pk_us]⟩
    rw [← q2]
    have hr : hearS n σ = stillS n (hearN σ n) := rfl
    have g8 : 0 ≤ hearN σ n 8 := by rw [hearN_low (by decide) (by decide)]; exact h8
    generalize hearN σ n = τ at hr hx g8 ⊢
    rw [hr]
    have lo3 : ∀ (ρ : Row) (x : Int32), upd (lay 4000 51 ρ m) 3001 x = lay 4000 51 ρ (upd m 3001 x) := fun ρ x => lay_updO (by decide)
    by_cases h0 : x1 = 0
    · have hns : ¬ speakN τ n = 0 := hx.mp h0
      subst h0
      simp only [f_X9_tenth_80, f_X9_tenth_104, f_X9_tenth_122, f_X9_tenth_164, if_true, doI_some, doV_some, seqM_eq, chk_t, Nat.reduceMul, Nat.reduceAdd, Int32.reduceToNatClampNeg, lm_6, lmu_6, lm_7, lmu_7, lm_8, lmu_8, pk_us, lo3]
      have u7 : ∀ ρ : Row, upd ρ 7 (ρ 7 + 0) = ρ := fun ρ => by rw [Int32.add_zero, upd_self]
      have s6 : stillS n τ = upd τ 6 0 := by unfold stillS; rw [if_neg hns]
      rw [s6]
      have c8 : (upd τ 6 0) 6 ≤ (upd τ 6 0) 8 := by rw [pk_us, pk_un (by decide)]; exact g8
      rw [u7, if_pos c8, upd_self, pk_us]
    · have hs : speakN τ n = 0 := by
        rcases Decidable.em (speakN τ n = 0) with q | q
        · exact q
        · exact absurd (hx.mpr q) h0
      simp only [f_X9_tenth_80, f_X9_tenth_104, f_X9_tenth_122, f_X9_tenth_164, h0, if_false, doI_some, doV_some, seqM_eq, chk_t, Nat.reduceMul, Nat.reduceAdd, Int32.reduceToNatClampNeg, lm_6, lmu_6, lm_7, lmu_7, lm_8, lmu_8, pk_us, lo3]
      have s6 : stillS n τ = upd (upd (upd τ 6 (τ 6 + 1)) 7 (τ 7 + 1)) 8 (if τ 6 + 1 ≤ τ 8 then τ 8 else τ 6 + 1) := by unfold stillS; rw [if_pos hs]
      rw [s6]
      have a7 : (upd τ 6 (τ 6 + 1)) 7 = τ 7 := pk_un (by decide)
      have a6 : (upd (upd τ 6 (τ 6 + 1)) 7 (τ 7 + 1)) 6 = τ 6 + 1 := by rw [pk_un (by decide), pk_us]
      have a8 : (upd (upd τ 6 (τ 6 + 1)) 7 (τ 7 + 1)) 8 = τ 8 := by rw [pk_un (by decide), pk_un (by decide)]
      rw [a7, a6, a8]
      have b6 : ∀ x, (upd (upd (upd τ 6 (τ 6 + 1)) 7 (τ 7 + 1)) 8 x) 6 = τ 6 + 1 := fun x => by rw [pk_un (by decide), a6]
      rw [b6]
      by_cases hc : τ 6 + 1 ≤ τ 8
      · rw [if_pos hc, if_pos hc, b6]
      · rw [if_neg hc, if_neg hc, b6]
  by_cases hs : speakN (hearN σ n) n = 0
  · rw [hs, if_pos (by decide)]
    exact key 1 ⟨fun z => absurd z (by decide), fun z => absurd hs z⟩
  · rw [if_neg (mask_ne0 hn (speakN_lt n) hs)]
    exact key 0 ⟨fun _ => hs, fun _ => rfl⟩
end MTENTH2
