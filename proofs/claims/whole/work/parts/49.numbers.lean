/-! PURE: numbers -/
section NUMBERS
variable {fu n : Nat} {m : Mem} {b : Nat → Nat}
theorem cnum_L {s e : Nat} (hT : TpC b n m) (he : e ≤ n) (hse : s ≤ e) (h4 : e - s ≤ 4) (h6 : m 286 = nI e) (hd : ∀ j, s ≤ j → j < e → isFi b j) : ∀ (f p : Nat), s ≤ p → p ≤ e → e - p < f → f_X1_takesNumber_22 fu f (nI (numV b s (p - s))) (nI p) m = doV (f_X1_takesAtom fu (nI (numV b s (e - s))) m) (fun m_2 => some (1, m_2)) := by
  have hn := hT.1
  intro f
  induction f with
  | zero => intro p _ _ h; omega
  | succ f ih =>
    intro p hsp hpe hf2
    rw [f_X1_takesNumber_22, h6]
    by_cases q : p = e
    · subst q
      rw [if_pos (nI_le (Nat.le_refl _) (by omega))]
    · have hlt : p < n := by omega
      obtain ⟨t1, t2⟩ := hT.2.2 p hlt
      have hfi := hd p hsp (by omega)
      have ev : nI (numV b s (p - s)) * 10 + nI (b p) - 48 = nI (numV b s (p + 1 - s)) := by
        rw [show p + 1 - s = (p - s) + 1 by omega, numV, show s + (p - s) = p by omega, show (10 : Int32) = nI 10 from rfl, show (48 : Int32) = nI 48 from rfl, pk_mul, nI_add, pk_sub (by have := hfi.1; omega), Nat.mul_comm]
      rw [if_neg (nI_ge (by omega) (by omega)), inb_nI (show p < 96 by omega) (by decide), chk_t, nI_clamp (by omega), t1, ev, seqM_eq, seqM_eq, nI_1]
      exact ih (p + 1) (by omega) (by omega) (by omega)
theorem cnum_ev2 {s e : Nat} (hfu : 97 < fu) (hT : TpC b n m) (he : e ≤ n) (hse : s ≤ e) (h5 : m 285 = nI s) (h6 : m 286 = nI e) (hd : ∀ j, s ≤ j → j < e → isFi b j) : f_X1_takesNumber fu m = if e - s ≤ 4 then doV (f_X1_takesAtom fu (nI (numV b s (e - s))) m) (fun m_2 => some (1, m_2)) else some (0, m) := by
  have hn := hT.1
  unfold f_X1_takesNumber
  rw [h5, h6, pk_sub hse]
  by_cases q : e - s ≤ 4
  · rw [if_pos (by rw [show (4 : Int32) = nI 4 from rfl]; exact nI_le q (by decide)), if_pos q, seqM_eq]
    have := cnum_L (fu := fu) hT he hse q h6 hd fu s (Nat.le_refl _) hse (by omega)
    rw [Nat.sub_self] at this
    exact this
  · rw [if_neg (by rw [show (4 : Int32) = nI 4 from rfl]; exact nI_ge (by omega) (by omega)), if_neg q]
theorem endOf_all {P : Nat → Prop} [DecidablePred P] : ∀ (d p : Nat), n - p ≤ d → ∀ j, p ≤ j → j < endOf P n p → P j := by
  intro d
  induction d with
  | zero => intro p h j h1 h2; rw [endOf_off (by omega)] at h2; omega
  | succ d ih =>
    intro p h j h1 h2
    by_cases q : p < n ∧ P p
    · rw [endOf_on q.1 q.2] at h2
      by_cases e : j = p
      · subst e; exact q.2
      · exact ih (p + 1) (by omega) j (by omega) h2
    · rw [endOf_off q] at h2
      omega
end NUMBERS
