/-! PURE: what is known of the signs held -/
def adjS (x y : Nat) : Prop := y = 40 ∨ y = 33 ∨ rkB x < rkB y
def okL (hs : Nat → Nat) (h : Nat) : Prop := (∀ i, i < h → okB (hs i)) ∧ ∀ i, i + 1 < h → adjS (hs i) (hs (i + 1))
def opN (hs : Nat → Nat) : Nat → Nat
  | 0 => 0
  | h + 1 => opN hs h + (if hs h = 40 then 1 else 0)
def biN (hs : Nat → Nat) : Nat → Nat
  | 0 => 0
  | h + 1 => biN hs h + (if hs h = 40 ∨ hs h = 33 then 0 else 1)
def tsN (hs : Nat → Nat) (d : Nat) : Nat → Bool
  | 0 => false
  | h + 1 => tsN hs d h || (decide (opN hs h = d) && decide (rkB (hs h) = 3))
def psh (hs : Nat → Nat) (h x : Nat) : Nat → Nat := fun i => if i = h then x else hs i
section STACK
variable {hs hs' : Nat → Nat} {h h' h'' r r' d z x : Nat} {c : Row}
theorem psh_lt {i : Nat} (hi : i < h) : psh hs h x i = hs i := by unfold psh; rw [if_neg (by omega)]
theorem psh_h : psh hs h x h = x := by unfold psh; rw [if_pos rfl]
theorem opN_c (e : ∀ i, i < h → hs' i = hs i) : opN hs' h = opN hs h := by
  induction h with
  | zero => rfl
  | succ h ih => rw [opN, opN, ih (fun i hi => e i (by omega)), e h (by omega)]
theorem biN_c (e : ∀ i, i < h → hs' i = hs i) : biN hs' h = biN hs h := by
  induction h with
  | zero => rfl
  | succ h ih => rw [biN, biN, ih (fun i hi => e i (by omega)), e h (by omega)]
theorem notsN_c (e : ∀ i, i < h → hs' i = hs i) : notsN hs' h = notsN hs h := by
  induction h with
  | zero => rfl
  | succ h ih => rw [notsN, notsN, ih (fun i hi => e i (by omega)), e h (by omega)]
theorem tsN_iff : tsN hs d h = true ↔ ∃ i, i < h ∧ opN hs i = d ∧ rkB (hs i) = 3 := by
  induction h with
  | zero => exact ⟨fun z => by (cases z), fun ⟨i, hi, _⟩ => absurd hi (by omega)⟩
  | succ h ih =>
    rw [tsN, Bool.or_eq_true, Bool.and_eq_true, decide_eq_true_eq, decide_eq_true_eq, ih]
    constructor
    · rintro (⟨i, a, b⟩ | q)
      · exact ⟨i, by omega, b⟩
      · exact ⟨h, by omega, q⟩
    · rintro ⟨i, a, b⟩
      by_cases e : i = h
      · subst e; exact Or.inr b
      · exact Or.inl ⟨i, by omega, b⟩
theorem tsN_c (e : ∀ i, i < h → hs' i = hs i) : tsN hs' d h = tsN hs d h := by
  induction h with
  | zero => rfl
  | succ h ih => rw [tsN, tsN, ih (fun i hi => e i (by omega)), e h (by omega), opN_c (h := h) (fun i hi => e i (by omega))]
theorem opN_p : opN (psh hs h x) (h + 1) = opN hs h + (if x = 40 then 1 else 0) := by rw [opN, psh_h, opN_c (fun i hi => psh_lt hi)]
theorem biN_p : biN (psh hs h x) (h + 1) = biN hs h + (if x = 40 ∨ x = 33 then 0 else 1) := by rw [biN, psh_h, biN_c (fun i hi => psh_lt hi)]
theorem notsN_p : notsN (psh hs h x) (h + 1) = notsN hs h + (if x = 33 then 1 else 0) := by rw [notsN, psh_h, notsN_c (fun i hi => psh_lt hi)]
theorem tsN_p : tsN (psh hs h x) d (h + 1) = (tsN hs d h || (decide (opN hs h = d) && decide (rkB x = 3))) := by rw [tsN, psh_h, tsN_c (fun i hi => psh_lt hi), opN_c (fun i hi => psh_lt hi)]
theorem okL_le (hL : okL hs h) (hh : h' ≤ h) : okL hs h' := ⟨fun i hi => hL.1 i (by omega), fun i hi => hL.2 i (by omega)⟩
theorem okL_p (hL : okL hs h) (hx : okB x) (ha : ∀ k, h = k + 1 → adjS (hs k) x) : okL (psh hs h x) (h + 1) := by
  refine ⟨fun i hi => ?_, fun i hi => ?_⟩
  · by_cases e : i = h
    · subst e; rw [psh_h]; exact hx
    · rw [psh_lt (by omega)]; exact hL.1 i (by omega)
  · by_cases e : i + 1 = h
    · rw [psh_lt (by omega), e, psh_h]; exact ha i e.symm
    · rw [psh_lt (by omega), psh_lt (by omega)]; exact hL.2 i (by omega)
theorem popTo_top : ∀ {h k : Nat}, popTo hs r h = k + 1 → rkB (hs k) < r := by
  intro h
  induction h with
  | zero => intro k e; rw [popTo] at e; omega
  | succ h ih =>
    intro k e
    rw [popTo] at e
    by_cases q : rkB (hs h) < r
    · rw [if_pos q] at e
      have : h = k := by omega
      subst this; exact q
    · rw [if_neg q] at e; exact ih e
theorem popTo_comp (hr : r ≤ r') : ∀ h, popTo hs r (popTo hs r' h) = popTo hs r h := by
  intro h
  induction h with
  | zero => rfl
  | succ h ih =>
    rw [popTo]
    by_cases q : rkB (hs h) < r'
    · rw [if_pos q]
    · rw [if_neg q, ih, popTo, if_neg (by omega)]
theorem putS_comp (a : h'' ≤ h') (b : h' ≤ h) : putS hs h' h'' (z + (h - h')) (putS hs h h' z c) = putS hs h h'' z c := by
  funext i
  unfold putS
  by_cases q : z + (h - h') ≤ i ∧ i < z + (h - h') + (h' - h'')
  · rw [if_pos q, if_pos (by omega)]
    congr 3
    omega
  · rw [if_neg q]
    by_cases w : z ≤ i ∧ i < z + (h - h')
    · rw [if_pos w, if_pos (by omega)]
    · rw [if_neg w, if_neg (by omega)]
theorem rk40 {y : Nat} (hr : 1 ≤ r) (h : ¬ rkB y < r) : ¬ y = 40 := fun e => h (by rw [e]; exact hr)
theorem opN_pop (hr : 1 ≤ r) : ∀ h, opN hs (popTo hs r h) = opN hs h := by
  intro h
  induction h with
  | zero => rfl
  | succ h ih =>
    rw [popTo]
    by_cases q : rkB (hs h) < r
    · rw [if_pos q]
    · rw [if_neg q, ih, opN, if_neg (rk40 hr q)]; rfl
theorem opN_mono {i j : Nat} (hij : i ≤ j) : opN hs i ≤ opN hs j := by
  induction j with
  | zero => rw [show i = 0 by omega]; exact Nat.le_refl _
  | succ j ih =>
    by_cases e : i = j + 1
    · rw [e]; exact Nat.le_refl _
    · have := ih (by omega)
      rw [opN]; omega
theorem rk_lt6 {y : Nat} (ho : okB y) (h33 : ¬ y = 33) : rkB y < 6 := by
  unfold okB at ho
  rcases ho with rfl | rfl | rfl | rfl | rfl | rfl | rfl | rfl | rfl | rfl | rfl
  · exact absurd rfl h33
  all_goals decide
/-- within a level the ranks rise -/
theorem lvl (hL : okL hs h) {i : Nat} : ∀ j, i < j → j < h → opN hs i = opN hs j → ¬ hs j = 40 → ¬ hs j = 33 → rkB (hs i) < rkB (hs j) := by
  intro j
  induction j with
  | zero => intro q; omega
  | succ j ih =>
    intro hij hj ho n40 n33
    have hr : rkB (hs j) < rkB (hs (j + 1)) := by
      rcases hL.2 j hj with q | q | q
      · exact absurd q n40
      · exact absurd q n33
      · exact q
    by_cases e : i = j
    · subst e; exact hr
    · have m1 := opN_mono (hs := hs) (show i ≤ j by omega)
      have m2 : opN hs (j + 1) = opN hs j + (if hs j = 40 then 1 else 0) := rfl
      have j40 : ¬ hs j = 40 := fun q => by rw [if_pos q] at m2; omega
      rw [if_neg j40] at m2
      have j33 : ¬ hs j = 33 := fun q => by
        have := rk_lt6 (hL.1 (j + 1) hj) n33
        rw [q] at hr
        have e6 : rkB 33 = 6 := by decide
        omega
      have := ih (by omega) (by omega) (by omega) j40 j33
      omega
theorem ts_hi (hr : 4 ≤ r) : ∀ h, tsN hs d (popTo hs r h) = tsN hs d h := by
  intro h
  induction h with
  | zero => rfl
  | succ h ih =>
    rw [popTo]
    by_cases q : rkB (hs h) < r
    · rw [if_pos q]
    · rw [if_neg q, ih, tsN, decide_eq_false (show ¬ rkB (hs h) = 3 by omega), Bool.and_false, Bool.or_false]
theorem ts_low (hr : 1 ≤ r) : ∀ h, d < opN hs h → tsN hs d (popTo hs r h) = tsN hs d h := by
  intro h
  induction h with
  | zero => intro _; rfl
  | succ h ih =>
    intro hd
    rw [popTo]
    by_cases q : rkB (hs h) < r
    · rw [if_pos q]
    · have n40 := rk40 hr q
      rw [opN, if_neg n40] at hd
      rw [if_neg q, ih hd, tsN, decide_eq_false (show ¬ opN hs h = d by omega), Bool.false_and, Bool.or_false]
theorem ts_kill (hL : okL hs h) (hr : 1 ≤ r) (hr3 : r ≤ 3) : tsN hs (opN hs h) (popTo hs r h) = false := by
  rw [← Bool.not_eq_true, tsN_iff]
  rintro ⟨i, hi, ho, h3⟩
  have le := popTo_le (hs := hs) (r := r) h
  have eo := opN_pop (hs := hs) hr h
  obtain ⟨k, hk⟩ : ∃ k, popTo hs r h = k + 1 := ⟨popTo hs r h - 1, by omega⟩
  have tp := popTo_top hk
  rw [hk] at eo hi le
  have k40 : ¬ hs k = 40 := fun q => by
    rw [opN, if_pos q] at eo
    by_cases e : i = k
    · rw [e, q] at h3; exact absurd h3 (by decide)
    · have := opN_mono (hs := hs) (show i ≤ k by omega); omega
  rw [opN, if_neg k40] at eo
  by_cases e : i = k
  · subst e; omega
  · have k33 : ¬ hs k = 33 := fun q => by rw [q] at tp; have e6 : rkB 33 = 6 := by decide
                                          omega
    have := lvl hL k (show i < k by omega) (by omega) (by omega) k40 k33
    omega
theorem ts_top (hL : okL hs h) : tsN hs (opN hs h) h = true ↔ topR hs (popTo hs 4 h) = 3 := by
  rw [← ts_hi (r := 4) (by decide), tsN_iff]
  have le := popTo_le (hs := hs) (r := 4) h
  have eo := opN_pop (hs := hs) (r := 4) (by decide) h
  constructor
  · rintro ⟨i, hi, ho, h3⟩
    obtain ⟨k, hk⟩ : ∃ k, popTo hs 4 h = k + 1 := ⟨popTo hs 4 h - 1, by omega⟩
    have tp := popTo_top hk
    rw [hk] at eo hi le ⊢
    show rkB (hs k) = 3
    by_cases e : i = k
    · subst e; exact h3
    · have k40 : ¬ hs k = 40 := fun q => by
        rw [opN, if_pos q] at eo
        have := opN_mono (hs := hs) (show i ≤ k by omega); omega
      have k33 : ¬ hs k = 33 := fun q => by rw [q] at tp; exact absurd tp (by decide)
      rw [opN, if_neg k40] at eo
      have := lvl hL k (show i < k by omega) (by omega) (by omega) k40 k33
      omega
  · intro h3
    cases hk : popTo hs 4 h with
    | zero => rw [hk] at h3; exact absurd (show (0 : Nat) = 3 from h3) (by decide)
    | succ k =>
      rw [hk] at h3 eo
      have h3 : rkB (hs k) = 3 := h3
      have k40 : ¬ hs k = 40 := fun q => by rw [q] at h3; exact absurd h3 (by decide)
      rw [opN, if_neg k40] at eo
      exact ⟨k, by omega, by omega, h3⟩
theorem pop34 : ∀ h, ¬ topR hs (popTo hs 4 h) = 3 → popTo hs 3 h = popTo hs 4 h := by
  intro h
  induction h with
  | zero => intro _; rfl
  | succ h ih =>
    intro q
    rw [popTo] at q
    rw [popTo, popTo]
    by_cases w : rkB (hs h) < 4
    · rw [if_pos w] at q
      have q : ¬ rkB (hs h) = 3 := q
      rw [if_pos w, if_pos (by omega)]
    · rw [if_neg w] at q
      rw [if_neg w, if_neg (by omega)]
      exact ih q
theorem nots_pop (hr : 1 ≤ r) : ∀ h, okL hs h → (∀ k, h = k + 1 → rkB (hs k) < 6) → notsN hs (popTo hs r h) = notsN hs h := by
  intro h
  induction h with
  | zero => intro _ _; rfl
  | succ h ih =>
    intro hL ht
    have t6 := ht h rfl
    rw [popTo]
    by_cases q : rkB (hs h) < r
    · rw [if_pos q]
    · have n40 := rk40 hr q
      have n33 : ¬ hs h = 33 := fun e => by rw [e] at t6; exact absurd t6 (by decide)
      rw [if_neg q, notsN, if_neg n33, Nat.add_zero]
      refine ih (okL_le hL (by omega)) (fun k hk => ?_)
      subst hk
      rcases hL.2 k (by omega) with e | e | e
      · exact absurd e n40
      · exact absurd e n33
      · omega
def CV (key : Nat) (c : Row) (z : Nat) : Prop := ∀ i, i < z → (isA (c i) → c i ≤ 9999 ∧ (¬ key = 0 → ¬ c i = -3)) ∧ (¬ isA (c i) → okS (c i) = true) ∧ (c i = -33 → 1 ≤ dN c i) ∧ (¬ isA (c i) → ¬ c i = -33 → 2 ≤ dN c i)
theorem cv_push {key : Nat} {w : Int32} (hc : CV key c z) (hw : (isA w → w ≤ 9999 ∧ (¬ key = 0 → ¬ w = -3)) ∧ (¬ isA w → okS w = true) ∧ (w = -33 → 1 ≤ dN c z) ∧ (¬ isA w → ¬ w = -33 → 2 ≤ dN c z)) : CV key (upd c z w) (z + 1) ∧ dN (upd c z w) (z + 1) = (if isA w then dN c z + 1 else if w = -33 then dN c z else dN c z - 1) := by
  have e : ∀ i, i < z → upd c z w i = c i := fun i hi => pk_un (by omega)
  have ed := dN_congr e
  refine ⟨fun i hi => ?_, ?_⟩
  · by_cases q : i = z
    · subst q
      rw [pk_us, ed i (Nat.le_refl _)]
      exact hw
    · rw [e i (by omega), ed i (by omega)]
      exact hc i (by omega)
  · rw [dN, pk_us, ed z (Nat.le_refl _)]
theorem sgnB {y : Nat} (ho : okB y) (h40 : ¬ y = 40) : ¬ isA (-(nI y)) ∧ okS (-(nI y)) = true ∧ (-(nI y) = -33 ↔ y = 33) := by
  unfold okB at ho
  rcases ho with rfl | rfl | rfl | rfl | rfl | rfl | rfl | rfl | rfl | rfl | rfl
  · decide
  · decide
  · exact absurd rfl h40
  all_goals decide
theorem cv_pop {key : Nat} (hr : 1 ≤ r) : ∀ (h z : Nat) (c : Row), (∀ i, i < h → okB (hs i)) → CV key c z → dN c z = biN hs h + 1 → CV key (putS hs h (popTo hs r h) z c) (z + (h - popTo hs r h)) ∧ dN (putS hs h (popTo hs r h) z c) (z + (h - popTo hs r h)) = biN hs (popTo hs r h) + 1 := by
  intro h
  induction h with
  | zero =>
    intro z c _ hc hd
    rw [popTo, putS_0, Nat.sub_self, Nat.add_zero]
    exact ⟨hc, hd⟩
  | succ h ih =>
    intro z c ho hc hd
    rw [popTo]
    by_cases q : rkB (hs h) < r
    · rw [if_pos q, putS_0, Nat.sub_self, Nat.add_zero]
      exact ⟨hc, hd⟩
    · have n40 := rk40 hr q
      have le := popTo_le (hs := hs) (r := r) h
      obtain ⟨s1, s2, s3⟩ := sgnB (ho h (by omega)) n40
      rw [biN] at hd
      have hp := cv_push (c := c) (z := z) (w := -(nI (hs h))) hc ⟨fun a => absurd a s1, fun _ => s2, fun _ => by omega, fun _ w => by
        rw [if_neg (fun o => by
          rcases o with o | o
          · exact n40 o
          · exact w (s3.mpr o))] at hd
        omega⟩
      rw [if_neg s1] at hp
      have hd2 : dN (upd c z (-(nI (hs h)))) (z + 1) = biN hs h + 1 := by
        rw [hp.2]
        by_cases e : hs h = 33
        · rw [if_pos (s3.mpr e)]
          rw [if_pos (Or.inr e)] at hd
          omega
        · rw [if_neg (fun w => e (s3.mp w))]
          rw [if_neg (fun o => by
            rcases o with o | o
            · exact n40 o
            · exact e o)] at hd
          omega
      have := ih (z + 1) (upd c z (-(nI (hs h)))) (fun i hi => ho i (by omega)) hp.1 hd2
      rw [putS_s le] at this
      rw [if_neg q, show z + (h + 1 - popTo hs r h) = z + 1 + (h - popTo hs r h) by omega]
      exact this
end STACK
