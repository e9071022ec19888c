/-! PURE: what a tenth keeps; many tenths, in the class and in the reference -/
def ROK (B n : Nat) (σ : Row) : Prop := σ 1 = nI n ∧ n ≤ 5 ∧ VSK n σ ∧ SCA B σ
section RUN
variable {fu n t B : Nat} {σ : Row} {m : Mem} {off : Off} {T : Int32}
theorem SCH.lj (hB : B < 90000) (h : SCH B σ) : LJ σ := by
  obtain ⟨⟨l, hl, el⟩, ⟨T', s, h, j, hT1, eT, hs1, es, hh, eh, hj, ej⟩⟩ := h
  exact ⟨l, j, hl, el, by omega, ej⟩
theorem clampO_nI {o : Int32} {l : Nat} (hl : l < 2 ^ 31) : ∃ k, k ≤ l ∧ clampO o (nI l) = nI k := by
  unfold clampO
  split
  · rename_i h0
    split
    · rename_i h1
      obtain ⟨j, hj, ej⟩ := nI_of2 (M := nI l) (n := l) (nI_toInt hl) (by rw [Int32.not_lt]; exact h0) h1
      exact ⟨j, hj, ej⟩
    · exact ⟨l, Nat.le_refl _, rfl⟩
  · exact ⟨0, Nat.zero_le _, rfl⟩
theorem bearS_5 (h : LJ σ) : ∃ l, l ≤ 9999 ∧ bearS off σ 5 = nI l := by
  obtain ⟨l, j, hl, el, hj, ej⟩ := h
  unfold bearS
  split
  · rw [pk_un (by decide), pk_un (by decide), pk_us]
    obtain ⟨k, hk, ek⟩ := clampO_nI (o := σ 5 - σ 12) (l := 9999) (by decide)
    exact ⟨k, hk, ek⟩
  · split
    · rw [pk_un (by decide), pk_un (by decide), pk_us, el, show (2 : Int32) = nI 2 from rfl, pk_div (by omega) (by decide) (by decide)]
      exact ⟨l / 2, by omega, rfl⟩
    · rw [pk_us, el]
      obtain ⟨k, hk, ek⟩ := clampO_nI (o := off (σ 6) (nI l) (σ 8)) (l := l) (by omega)
      rw [ek, pk_sub hk]
      exact ⟨l - k, by omega, rfl⟩
theorem bearS_6 : bearS off σ 6 = 0 ∨ bearS off σ 6 = σ 6 := by
  unfold bearS
  split
  · exact Or.inl pk_us
  · split
    · exact Or.inl pk_us
    · exact Or.inr (pk_un (by decide))
theorem bearS_12 : bearS off σ 12 = σ 12 ∨ bearS off σ 12 = σ 12 + 1 := by
  unfold bearS
  split
  · exact Or.inr (by rw [pk_un (by decide), pk_us])
  · split
    · exact Or.inl (by rw [pk_un (by decide), pk_un (by decide), pk_un (by decide)])
    · exact Or.inl (pk_un (by decide))
theorem actS_6 : actS n σ 6 = 0 ∨ actS n σ 6 = σ 6 := by
  unfold actS
  split
  · exact Or.inr (turnN_low (by decide) (by decide) (by decide) (by decide))
  · unfold crossS
    rw [pk_us]
    split
    · exact Or.inl rfl
    · exact Or.inr (by rw [crossN_low (by decide) (by decide), pk_un (by decide)])
theorem actS_low {q : Nat} (h0 : q ≠ 0) (h9 : q ≠ 9) (h10 : q ≠ 10) (h11 : q ≠ 11) (h6 : q ≠ 6) (hq : q < 16) : actS n σ q = σ q := actS_o h0 h9 h10 h11 h6 (low_ne hq)
theorem actS_hi {q : Nat} (hn : n ≤ 5) (hq : 51 ≤ q) : actS n σ q = σ q := actS_o (by omega) (by omega) (by omega) (by omega) (by omega) (fun u hu => by
  unfold ps; refine ⟨?_, ?_, ?_⟩ <;> omega)
/-- what a tenth does not touch -/
theorem goOnS_o {q : Nat} (hn : n ≤ 5) (hq : q = 1 ∨ q = 3 ∨ q = 4 ∨ q = 15 ∨ 51 ≤ q) : goOnS off n σ q = σ q := by
  unfold goOnS tickS lastS
  rw [pk_un (by omega)]
  have h1 : ∀ τ : Row, bearS off τ q = τ q := fun τ => bearS_o (by omega) (by omega) (by omega) (by omega)
  have h2 : actS n σ q = σ q := by
    rcases hq with rfl | rfl | rfl | rfl | hq
    · exact actS_low (by decide) (by decide) (by decide) (by decide) (by decide) (by decide)
    · exact actS_low (by decide) (by decide) (by decide) (by decide) (by decide) (by decide)
    · exact actS_low (by decide) (by decide) (by decide) (by decide) (by decide) (by decide)
    · exact actS_low (by decide) (by decide) (by decide) (by decide) (by decide) (by decide)
    · exact actS_hi hn hq
  have h3 : (if speakN σ n = 0 then actS n σ else σ) q = σ q := by
    split
    · exact h2
    · rfl
  generalize (if speakN σ n = 0 then actS n σ else σ) = τ at h3 ⊢
  split
  · rw [h1, h3]
  · exact h3
theorem hearS_o {q : Nat} (hn : n ≤ 5) (hq : q = 1 ∨ q = 3 ∨ q = 4 ∨ q = 15 ∨ 51 ≤ q) : hearS n σ q = σ q := by
  unfold hearS
  rw [stillS_o (by omega) (by omega) (by omega)]
  exact hearN_o (by omega) n (fun u hu => by unfold ps; omega)
theorem tenthS_o {q : Nat} (hn : n ≤ 5) (hq : q = 1 ∨ q = 3 ∨ q = 4 ∨ q = 15 ∨ 51 ≤ q) : tenthS off n σ q = σ q := by
  unfold tenthS
  rw [goOnS_o hn hq, hearS_o hn hq]
theorem goOnS_VSK (hk : VSK n σ) : VSK n (goOnS off n σ) := by
  intro w hw
  have h2 : VSK n (if speakN σ n = 0 then actS n σ else σ) := by
    split
    · exact actS_VSK hk
    · exact hk
  unfold goOnS tickS lastS
  generalize (if speakN σ n = 0 then actS n σ else σ) = τ at h2 ⊢
  refine (h2 w hw).congr (fun j hj => ?_)
  have := @ps_ge w j
  rw [pk_un (by omega)]
  split
  · rw [bearS_o (by omega) (by omega) (by omega) (by omega)]
  · rfl
theorem goOnS_SCA (hB : B < 90000) (h : SCH B σ) : SCA (B + 1) (goOnS off n σ) := by
  obtain ⟨⟨l, hl, el⟩, ⟨T', s, h, j, hT1, eT, hs1, es, hh, eh, hj, ej⟩⟩ := h
  have key : ∀ τ : Row, τ 5 = nI l → τ 2 = nI T' → (τ 6 = 0 ∨ τ 6 = nI s) → τ 8 = nI h → τ 12 = nI j → SCA (B + 1) (tickS (lastS off n τ)) := by
    intro τ t5 t2 t6 t8 t12
    have t6' : ∃ s2, s2 ≤ T' + 1 ∧ τ 6 = nI s2 := by
      rcases t6 with q | q
      · exact ⟨0, by omega, q⟩
      · exact ⟨s, hs1, q⟩
    obtain ⟨s2, hs2, e6⟩ := t6'
    unfold tickS lastS
    split
    · have lj : LJ τ := ⟨l, j, hl, t5, by omega, t12⟩
      obtain ⟨l2, hl2, el2⟩ := bearS_5 (off := off) lj
      refine ⟨⟨l2, hl2, by rw [pk_un (by decide), el2]⟩, ?_⟩
      have b2 : bearS off τ 2 = nI T' := by rw [bearS_o (by decide) (by decide) (by decide) (by decide), t2]
      have b8 : bearS off τ 8 = nI h := by rw [bearS_o (by decide) (by decide) (by decide) (by decide), t8]
      have b6 : ∃ s3, s3 ≤ T' + 1 ∧ bearS off τ 6 = nI s3 := by
        rcases bearS_6 (off := off) (σ := τ) with q | q
        · exact ⟨0, by omega, q⟩
        · exact ⟨s2, hs2, by rw [q, e6]⟩
      have b12 : ∃ j3, j3 ≤ T' + 1 ∧ bearS off τ 12 = nI j3 := by
        rcases bearS_12 (off := off) (σ := τ) with q | q
        · exact ⟨j, by omega, by rw [q, t12]⟩
        · exact ⟨j + 1, by omega, by rw [q, t12, nI_1]⟩
      obtain ⟨s3, hs3, e63⟩ := b6
      obtain ⟨j3, hj3, e12⟩ := b12
      exact ⟨T' + 1, s3, h, j3, by omega, by rw [pk_us, b2, nI_1], hs3, by rw [pk_un (by decide), e63], by omega, by rw [pk_un (by decide), b8], hj3, by rw [pk_un (by decide), e12]⟩
    · refine ⟨⟨l, hl, by rw [pk_un (by decide), t5]⟩, T' + 1, s2, h, j, by omega, by rw [pk_us, t2, nI_1], hs2, by rw [pk_un (by decide), e6], by omega, by rw [pk_un (by decide), t8], by omega, by rw [pk_un (by decide), t12]⟩
  unfold goOnS
  split
  · refine key _ ?_ ?_ ?_ ?_ ?_
    · rw [actS_low (by decide) (by decide) (by decide) (by decide) (by decide) (by decide), el]
    · rw [actS_low (by decide) (by decide) (by decide) (by decide) (by decide) (by decide), eT]
    · rcases actS_6 (n := n) (σ := σ) with q | q
      · exact Or.inl q
      · exact Or.inr (by rw [q, es])
    · rw [actS_low (by decide) (by decide) (by decide) (by decide) (by decide) (by decide), eh]
    · rw [actS_low (by decide) (by decide) (by decide) (by decide) (by decide) (by decide), ej]
  · exact key σ el eT (Or.inr es) eh ej
theorem tenthS_ROK (hB : B < 90000) (h : ROK B n σ) : ROK (B + 1) n (tenthS off n σ) := by
  obtain ⟨h1, hn, hk, hs⟩ := h
  refine ⟨by rw [tenthS_o hn (Or.inl rfl), h1], hn, ?_, ?_⟩
  · exact goOnS_VSK (hearS_VSK hk)
  · exact goOnS_SCA hB (hearS_SCH (by omega) hs).1
def tenthsS (off : Off) (n : Nat) : Nat → Row → Row
  | 0, σ => σ
  | k + 1, σ => tenthsS off n k (tenthS off n σ)
theorem tenthsS_ROK : ∀ (k B : Nat) (σ : Row), B + k < 90000 → ROK B n σ → ROK (B + k) n (tenthsS off n k σ) := by
  intro k
  induction k with
  | zero => intro B σ _ h; exact h
  | succ k ih =>
    intro B σ hB h
    have := ih (B + 1) (tenthS off n σ) (by omega) (tenthS_ROK (by omega) h)
    rw [show B + 1 + k = B + (k + 1) by omega] at this
    exact this
theorem tenthsS_o (hn : n ≤ 5) {q : Nat} (hq : q = 1 ∨ q = 3 ∨ q = 4 ∨ q = 15 ∨ 51 ≤ q) : ∀ (k : Nat) (σ : Row), tenthsS off n k σ q = σ q := by
  intro k
  induction k with
  | zero => intro σ; rfl
  | succ k ih => intro σ; rw [tenthsS, ih, tenthS_o hn hq]
/-- one tenth of the class -/
theorem ctenth_ev (hf : 5 < fu) (hB : B < 90000) (h : ROK B n σ) (ho : OffC fu t m T off) (hT : σ 51 = T) : ∃ m2, SC m m2 ∧ f_X4_hear fu t (lay (70 * t) 54 σ m) = some (lay (70 * t) 54 (hearS n σ) m) ∧ f_X4_goOn fu t (lay (70 * t) 54 (hearS n σ) m) = some (lay (70 * t) 54 (tenthS off n σ) m2) := by
  obtain ⟨h1, hn, hk, hs⟩ := h
  obtain ⟨hsch, h6⟩ := hearS_SCH (n := n) (by omega) hs
  obtain ⟨m2, q1, q2⟩ := cgoOn_ev (σ := hearS n σ) hn hf (by rw [hearS_o hn (Or.inl rfl), h1]) (hearS_VSK hk) (hsch.lj hB) ho (by rw [hearS_o hn (by omega), hT]) h6
  exact ⟨m2, q1, chear_ev hn hf h1 hk, q2⟩
theorem crun_L (hf : 5 < fu) {k : Nat} (hk : k < 90000) : ∀ (f i B : Nat) (σ : Row) (m : Mem), i ≤ k → k - i < f → B + (k - i) < 90000 → ROK B n σ → OffC fu t m T off → σ 51 = T → ∃ m2, SC m m2 ∧ f_X4_run_2 fu f t (nI k) (nI i) (lay (70 * t) 54 σ m) = some (lay (70 * t) 54 (tenthsS off n (k - i) σ) m2) := by
  intro f
  induction f with
  | zero => intro i _ _ _ _ h; omega
  | succ f ih =>
    intro i B σ m hi hf2 hB h ho hT
    rw [f_X4_run_2]
    by_cases he : i = k
    · subst he
      rw [if_pos (nI_le (Nat.le_refl _) (by omega)), Nat.sub_self]
      exact ⟨m, SC.refl, rfl⟩
    · rw [if_neg (nI_ge (by omega) (by omega))]
      obtain ⟨m2, q1, q2, q3⟩ := ctenth_ev hf (by omega) h ho hT
      rw [q2, doV_some, q3, doV_some]
      simp only [doI_some, doV_some, seqM_eq, chk_t, nI_1]
      obtain ⟨m3, q4, q5⟩ := ih (i + 1) (B + 1) (tenthS off n σ) m2 (by omega) (by omega) (by omega) (tenthS_ROK (by omega) h) (ho.moved q1) (by rw [tenthS_o h.2.1 (by omega), hT])
      refine ⟨m3, q1.trans q4, ?_⟩
      rw [q5, show k - i = (k - (i + 1)) + 1 by omega]
      rfl
theorem crun_ev (hf : 5 < fu) {k : Nat} (hk : k < fu) (hk2 : k < 90000) (hB : B + k < 90000) (h : ROK B n σ) (ho : OffC fu t m T off) (hT : σ 51 = T) : ∃ m2, SC m m2 ∧ f_X4_run fu t (nI k) (lay (70 * t) 54 σ m) = some (lay (70 * t) 54 (tenthsS off n k σ) m2) := by
  have := crun_L hf hk2 fu 0 B σ m (Nat.zero_le _) (by omega) (by omega) h ho hT
  exact this
theorem ROK.h8 (hB : B < 90000) (h : ROK B n σ) : 0 ≤ σ 8 := by
  obtain ⟨-, -, -, -, ⟨T', s, h, j, hT1, eT, hs1, es, hh, eh, hj, ej⟩⟩ := h
  rw [eh]
  exact nI_pos' (by omega)
/-- one tenth of the reference -/
theorem mtenth_ok (hf : 5 < fu) (hB : B < 90000) (h : ROK B n σ) (ho : OffM fu m T off) (hT : σ 15 = T) : ∃ m2, SM m m2 ∧ f_X9_tenth fu (lay 4000 51 σ m) = some (lay 4000 51 (tenthS off n σ) m2) ∧ m2 3001 = hearS n σ 6 :=
  mtenth_ev h.2.1 hf h.1 (h.h8 hB) ho hT h.2.2.1.tok
theorem mrun_L (hf : 5 < fu) {k : Nat} (hk : k < 90000) : ∀ (f i B : Nat) (σ : Row) (m : Mem), i ≤ k → k - i < f → B + (k - i) < 90000 → ROK B n σ → OffM fu m T off → σ 15 = T → ∃ m2, SM m m2 ∧ f_X9_goesOn_2 fu f (nI k) (nI i) (lay 4000 51 σ m) = some (lay 4000 51 (tenthsS off n (k - i) σ) m2) := by
  intro f
  induction f with
  | zero => intro i _ _ _ _ h; omega
  | succ f ih =>
    intro i B σ m hi hf2 hB h ho hT
    rw [f_X9_goesOn_2]
    by_cases he : i = k
    · subst he
      rw [if_pos (nI_le (Nat.le_refl _) (by omega)), Nat.sub_self]
      exact ⟨m, SM.refl, rfl⟩
    · rw [if_neg (nI_ge (by omega) (by omega))]
      obtain ⟨m2, q1, q2, -⟩ := mtenth_ok hf (by omega) h ho hT
      rw [q2, doV_some]
      simp only [doI_some, doV_some, seqM_eq, chk_t, nI_1]
      obtain ⟨m3, q4, q5⟩ := ih (i + 1) (B + 1) (tenthS off n σ) m2 (by omega) (by omega) (by omega) (tenthS_ROK (by omega) h) (ho.moved q1) (by rw [tenthS_o h.2.1 (by omega), hT])
      refine ⟨m3, q1.trans q4, ?_⟩
      rw [q5, show k - i = (k - (i + 1)) + 1 by omega]
      rfl
theorem mrun_ev (hf : 5 < fu) {k : Nat} (hk : k < fu) (hk2 : k < 90000) (hB : B + k < 90000) (h : ROK B n σ) (ho : OffM fu m T off) (hT : σ 15 = T) : ∃ m2, SM m m2 ∧ f_X9_goesOn fu (nI k) (lay 4000 51 σ m) = some (lay 4000 51 (tenthsS off n k σ) m2) := by
  have := mrun_L hf hk2 fu 0 B σ m (Nat.zero_le _) (by omega) (by omega) h ho hT
  exact this
end RUN
