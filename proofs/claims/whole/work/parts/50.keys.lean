/-! PURE: keys -/
def strB : List (List Nat) := [[111, 102, 102], [102, 101, 101], [102, 105, 110, 101]]
def chB (i j : Nat) : Nat := (strB.getD i []).getD j 0
def lnB (i : Nat) : Nat := (strB.getD i []).length
section KEYS
variable {fu n : Nat} {m : Mem} {b : Nat → Nat}
theorem charAt_ev {i j : Nat} (hi : i < 3) (hj : j < lnB i) : f_J0_charAt_5068e fu i (nI j) m = some (nI (chB i j), m) := by
  have h3 : i = 0 ∨ i = 1 ∨ i = 2 := by omega
  rcases h3 with rfl | rfl | rfl
  · have : j = 0 ∨ j = 1 ∨ j = 2 := by have : lnB 0 = 3 := rfl; omega
    rcases this with rfl | rfl | rfl <;> rfl
  · have : j = 0 ∨ j = 1 ∨ j = 2 := by have : lnB 1 = 3 := rfl; omega
    rcases this with rfl | rfl | rfl <;> rfl
  · have : j = 0 ∨ j = 1 ∨ j = 2 ∨ j = 3 := by have : lnB 2 = 4 := rfl; omega
    rcases this with rfl | rfl | rfl | rfl <;> rfl
theorem klen_ev {i : Nat} (hi : i < 3) : f_J0_length_8abf5 fu i m = some (nI (lnB i), m) := by
  rw [len_ev]
  have d : ∀ i, i < 3 → nI (slen.getD i 0) >>> ((0 : Int32) &&& 31) = nI (lnB i) := by decide
  rw [d i hi]
theorem chB_lt : ∀ i, i < 3 → ∀ j, j < 4 → chB i j < 256 := by decide
theorem lnB_le : ∀ i, i < 3 → lnB i ≤ 4 := by decide
/-- the rest of key i, from its byte j on, stands at s -/
def restK (b : Nat → Nat) (s i : Nat) : Nat → Nat → Bool
  | _, 0 => true
  | j, r + 1 => if b (s + j) = chB i j then restK b s i (j + 1) r else false
theorem here_L {s i : Nat} (hi : i < 3) (hT : TpC b n m) (h5 : m 285 = nI s) (hs : s + lnB i ≤ n) : ∀ (f j : Nat), j ≤ lnB i → lnB i - j < f → f_X1_isHere_20 fu f i (nI j) m = some (bz (restK b s i j (lnB i - j) = true), m) := by
  have hn := hT.1
  have hl := lnB_le i hi
  intro f
  induction f with
  | zero => intro j _ h; omega
  | succ f ih =>
    intro j hj hf2
    rw [f_X1_isHere_20, klen_ev hi, doI_some]
    by_cases q : j = lnB i
    · subst q
      rw [if_pos (nI_le (Nat.le_refl _) (by omega)), Nat.sub_self, bz_t (show restK b s i (lnB i) 0 = true from rfl)]
    · have hlt : j < lnB i := by omega
      obtain ⟨t1, t2⟩ := hT.2.2 (s + j) (by omega)
      rw [if_neg (nI_ge hlt (by omega)), h5, nI_add, inb_nI (show s + j < 96 by omega) (by decide), chk_t, charAt_ev hi hlt, doI_some, nI_clamp (by omega), t1]
      have ec : (nI (b (s + j)) = nI (chB i j)) = (b (s + j) = chB i j) := nI_eqP (by omega) (by have := chB_lt i hi j (by omega); omega)
      have er : restK b s i j (lnB i - j) = if b (s + j) = chB i j then restK b s i (j + 1) (lnB i - (j + 1)) else false := by
        rw [show lnB i - j = (lnB i - (j + 1)) + 1 by omega, restK]
      by_cases c : b (s + j) = chB i j
      · rw [if_pos (by rw [ec]; exact c), seqM_eq, nI_1, ih (j + 1) (by omega) (by omega), er, if_pos c]
      · rw [if_neg (by rw [ec]; exact c), er, if_neg c, bz_f (by decide)]
theorem here_ev {s e i : Nat} (hfu : 97 < fu) (hi : i < 3) (hT : TpC b n m) (h5 : m 285 = nI s) (h6 : m 286 = nI e) (hse : s ≤ e) (he : e ≤ n) : f_X1_isHere fu i m = some (bz (e - s = lnB i ∧ restK b s i 0 (lnB i) = true), m) := by
  have hn := hT.1
  have hl := lnB_le i hi
  unfold f_X1_isHere
  rw [klen_ev hi, doI_some, h5, h6, pk_sub hse]
  have ee : (nI (e - s) = nI (lnB i)) = (e - s = lnB i) := nI_eqP (by omega) (by omega)
  by_cases q : e - s = lnB i
  · rw [if_pos (by rw [ee]; exact q)]
    have := here_L (fu := fu) hi hT h5 (s := s) (by omega) fu 0 (Nat.zero_le _) (by omega)
    refine this.trans ?_
    by_cases c : restK b s i 0 (lnB i) = true
    · rw [Nat.sub_zero, bz_t c, bz_t ⟨q, c⟩]
    · rw [Nat.sub_zero, bz_f c, bz_f (fun z => c z.2)]
  · rw [if_neg (by rw [ee]; exact q), bz_f (fun z => q z.1)]
end KEYS
