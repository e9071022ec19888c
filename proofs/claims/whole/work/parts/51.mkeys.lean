/-! PURE: keys of the reference -/
def offK (i : Nat) : Nat := if i = 0 then 0 else if i = 1 then 3 else if i = 2 then 6 else 10
section MKEYS
variable {fu n : Nat} {m : Mem} {b : Nat → Nat}
def KcM (m : Mem) : Prop := (∀ i, i < 4 → m (3320 + i) = nI (offK i)) ∧ ∀ i, i < 3 → ∀ j, j < lnB i → m (3300 + (offK i + j)) = nI (chB i j)
theorem KST.kc (h : KST m) : KcM m := by
  obtain ⟨⟨a0, a1, a2, a3, a4, a5, a6, a7, a8, a9⟩, c0, c1, c2, c3⟩ := h
  refine ⟨fun i hi => ?_, fun i hi j hj => ?_⟩
  · have : i = 0 ∨ i = 1 ∨ i = 2 ∨ i = 3 := by omega
    rcases this with rfl | rfl | rfl | rfl
    · exact c0
    · exact c1
    · exact c2
    · exact c3
  · have : i = 0 ∨ i = 1 ∨ i = 2 := by omega
    rcases this with rfl | rfl | rfl
    · have : j = 0 ∨ j = 1 ∨ j = 2 := by have : lnB 0 = 3 := rfl; omega
      rcases this with rfl | rfl | rfl
      · exact a0
      · exact a1
      · exact a2
    · have : j = 0 ∨ j = 1 ∨ j = 2 := by have : lnB 1 = 3 := rfl; omega
      rcases this with rfl | rfl | rfl
      · exact a3
      · exact a4
      · exact a5
    · have : j = 0 ∨ j = 1 ∨ j = 2 ∨ j = 3 := by have : lnB 2 = 4 := rfl; omega
      rcases this with rfl | rfl | rfl | rfl
      · exact a6
      · exact a7
      · exact a8
      · exact a9
theorem k55_L {k12 : Int32 → Mem → Option (Int32 × Mem)} {s i : Nat} (hi : i < 3) (hT : TpM b n m) (hK : KcM m) (h4 : m 3004 = nI s) (hs : s + lnB i ≤ n) : ∀ (f j : Nat), j ≤ lnB i → lnB i - j + 1 < f → f_X9_takesKey_55 fu k12 f (nI i) (nI (lnB i)) 1 (nI j) m = f_X9_takesKey_106 fu k12 (nI i) (bz (restK b s i j (lnB i - j) = true)) m := by
  have hn := hT.1
  have hl := lnB_le i hi
  have ho : offK i + lnB i ≤ 10 := by
    have d : ∀ i, i < 3 → offK i + lnB i ≤ 10 := by decide
    exact d i hi
  intro f
  induction f with
  | zero => intro j _ h; omega
  | succ f ih =>
    intro j hj hf2
    rw [f_X9_takesKey_55]
    by_cases q : j = lnB i
    · subst q
      rw [if_pos (nI_le (Nat.le_refl _) (by omega)), Nat.sub_self, bz_t (show restK b s i (lnB i) 0 = true from rfl)]
    · have hlt : j < lnB i := by omega
      obtain ⟨t1, t2⟩ := hT.2.2 (s + j) (by omega)
      rw [if_neg (nI_ge hlt (by omega)), if_neg (by decide), h4, nI_add, inb_nI (show s + j < 96 by omega) (by decide), chk_t, inb_nI (show i < 4 by omega) (by decide), chk_t, nI_clamp (by omega), nI_clamp (by omega), hK.1 i (by omega), nI_add, inb_nI (show offK i + j < 10 by omega) (by decide), chk_t, nI_clamp (by omega), t1, hK.2 i hi j hlt]
      have ec : (nI (b (s + j)) = nI (chB i j)) = (b (s + j) = chB i j) := nI_eqP (by omega) (by have := chB_lt i hi j (by omega); omega)
      have er : restK b s i j (lnB i - j) = if b (s + j) = chB i j then restK b s i (j + 1) (lnB i - (j + 1)) else false := by
        rw [show lnB i - j = (lnB i - (j + 1)) + 1 by omega, restK]
      unfold f_X9_takesKey_99
      by_cases c : b (s + j) = chB i j
      · rw [if_pos (by rw [ec]; exact c), seqM_eq, nI_1, ih (j + 1) (by omega) (by omega), er, if_pos c]
      · obtain ⟨g, rfl⟩ : ∃ g, f = g + 1 := ⟨f - 1, by omega⟩
        rw [if_neg (by rw [ec]; exact c), seqM_eq, nI_1, er, if_neg c, bz_f (by decide), f_X9_takesKey_55]
        split
        · rfl
        · rw [if_pos rfl]
end MKEYS
