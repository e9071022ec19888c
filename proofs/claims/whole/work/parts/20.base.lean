/-! PURE: base -/
theorem doI_some {β : Type} {r : Int32} {m : Mem} {b : Int32 → Mem → Option β} : doI (some (r, m)) b = b r m := rfl
theorem doV_some {β : Type} {m : Mem} {b : Mem → Option β} : doV (some m) b = b m := rfl
theorem seqM_eq {α β : Type} {v : α} {b : α → β} : seqM v b = b v := rfl
theorem chk_t {β : Type} {k : Option β} : chk true k = k := rfl
def bz (P : Prop) [Decidable P] : Int32 := if P then 1 else 0
theorem bz_t {P : Prop} [Decidable P] (h : P) : bz P = 1 := by unfold bz; rw [if_pos h]
theorem bz_f {P : Prop} [Decidable P] (h : ¬ P) : bz P = 0 := by unfold bz; rw [if_neg h]
theorem bz0 {P : Prop} [Decidable P] : (bz P = 0) = ¬ P := by
  by_cases h : P
  · rw [bz_t h]; simp [h]
  · rw [bz_f h]; simp [h]
theorem bz1 {P : Prop} [Decidable P] : (bz P = 1) = P := by
  by_cases h : P
  · rw [bz_t h]; simp [h]
  · rw [bz_f h]; simp [h]
theorem isB_bz {P : Prop} [Decidable P] : isB (bz P) = true := by
  by_cases h : P
  · rw [bz_t h]; decide
  · rw [bz_f h]; decide
theorem isB_0 : isB 0 = true := by decide
theorem isB_1 : isB 1 = true := by decide
abbrev inR (x a b : Int32) : Prop := ¬ x < a ∧ ¬ b < x
theorem within_ev {fu : Nat} {x a b : Int32} {m : Mem} : f_X8_within fu x a b m = some (bz (inR x a b), m) := by
  unfold f_X8_within inR
  by_cases h1 : x < a
  · rw [if_pos h1, bz_f (by simp [h1])]
  · rw [if_neg h1]
    by_cases h2 : b < x
    · rw [if_pos h2, bz_f (by simp [h2])]
    · rw [if_neg h2, bz_t ⟨h1, h2⟩]
theorem in_ev {fu : Nat} {x a b : Int32} {m : Mem} : f_X9_in fu x a b m = some (bz (inR x a b), m) := by
  unfold f_X9_in inR
  by_cases h1 : x < a
  · rw [if_pos h1, bz_f (by simp [h1])]
  · rw [if_neg h1]
    by_cases h2 : b < x
    · rw [if_pos h2, bz_f (by simp [h2])]
    · rw [if_neg h2, bz_t ⟨h1, h2⟩]
theorem inb_nI {k n : Nat} (h : k < n) (hn : n < 2 ^ 31) : inb (nI k) n = true := by
  have q := vp_in_nI h hn
  exact decide_eq_true (p := ¬ (nI k < 0 ∨ n ≤ (nI k).toNatClampNeg)) q
theorem inb_of {x : Int32} {k n : Nat} (e : x = nI k) (h : k < n) (hn : n < 2 ^ 31) : inb x n = true := by rw [e]; exact inb_nI h hn
theorem upd_self {f : Nat → Int32} {k : Nat} : upd f k (f k) = f := by
  funext j
  unfold upd
  by_cases h : j = k
  · rw [if_pos h, h]
  · rw [if_neg h]
theorem upd_upd {f : Nat → Int32} {k : Nat} {x y : Int32} : upd (upd f k x) k y = upd f k y := by
  funext j
  unfold upd
  by_cases h : j = k
  · rw [if_pos h, if_pos h]
  · rw [if_neg h, if_neg h, if_neg h]
theorem upd_comm {f : Nat → Int32} {k j : Nat} {x y : Int32} (h : k ≠ j) : upd (upd f k x) j y = upd (upd f j y) k x := by
  funext i
  unfold upd
  by_cases h1 : i = j
  · by_cases h2 : i = k
    · exact absurd (h2.symm.trans h1) h
    · rw [if_pos h1, if_neg h2, if_pos h1]
  · by_cases h2 : i = k
    · rw [if_neg h1, if_pos h2, if_pos h2]
    · rw [if_neg h1, if_neg h2, if_neg h2, if_neg h1]
/-- a row of n ints laid over the memory at b -/
abbrev Row : Type := Nat → Int32
def lay (b n : Nat) (σ : Row) (m : Mem) : Mem := fun k => if b ≤ k ∧ k < b + n then σ (k - b) else m k
theorem lay_in {b n k : Nat} {σ : Row} {m : Mem} (h : k < n) : lay b n σ m (b + k) = σ k := by
  unfold lay
  rw [if_pos ⟨by omega, by omega⟩]
  congr 1
  omega
theorem lay_out {b n k : Nat} {σ : Row} {m : Mem} (h : k < b ∨ b + n ≤ k) : lay b n σ m k = m k := by
  unfold lay
  rw [if_neg (by omega)]
theorem lay_upd {b n k : Nat} {σ : Row} {m : Mem} {x : Int32} (h : k < n) : upd (lay b n σ m) (b + k) x = lay b n (upd σ k x) m := by
  funext j
  unfold lay upd
  dsimp only
  by_cases h1 : j = b + k
  · subst h1
    rw [if_pos rfl, if_pos ⟨by omega, by omega⟩, if_pos (by omega)]
  · rw [if_neg h1]
    by_cases h2 : b ≤ j ∧ j < b + n
    · rw [if_pos h2, if_pos h2, if_neg (by omega)]
    · rw [if_neg h2, if_neg h2]
theorem lay_updO {b n k : Nat} {σ : Row} {m : Mem} {x : Int32} (h : k < b ∨ b + n ≤ k) : upd (lay b n σ m) k x = lay b n σ (upd m k x) := by
  funext j
  unfold lay upd
  dsimp only
  by_cases h1 : j = k
  · subst h1
    rw [if_pos rfl, if_neg (by omega), if_pos rfl]
  · rw [if_neg h1, if_neg h1]
theorem lay_id {b n : Nat} {m : Mem} : lay b n (fun k => m (b + k)) m = m := by
  funext j
  unfold lay
  by_cases h : b ≤ j ∧ j < b + n
  · rw [if_pos h]; show m (b + (j - b)) = m j; rw [Nat.add_sub_cancel' h.1]
  · rw [if_neg h]
theorem lay_of {b n : Nat} {m : Mem} {σ : Row} (h : ∀ k, k < n → m (b + k) = σ k) : m = lay b n σ m := by
  funext j
  unfold lay
  by_cases hj : b ≤ j ∧ j < b + n
  · rw [if_pos hj, ← h (j - b) (by omega), Nat.add_sub_cancel' hj.1]
  · rw [if_neg hj]
theorem lay_lay {b n : Nat} {σ τ : Row} {m : Mem} : lay b n σ (lay b n τ m) = lay b n σ m := by
  funext j
  unfold lay
  by_cases h : b ≤ j ∧ j < b + n
  · rw [if_pos h, if_pos h]
  · rw [if_neg h, if_neg h, if_neg h]
theorem lc_get {t k : Nat} {σ : Row} {m : Mem} (h : k < 54) : lay (70 * t) 54 σ m (sf t k) = σ k := lay_in h
theorem lc_upd {t k : Nat} {σ : Row} {m : Mem} {x : Int32} (h : k < 54) : upd (lay (70 * t) 54 σ m) (sf t k) x = lay (70 * t) 54 (upd σ k x) m := lay_upd h
def ps (v j : Nat) : Nat := 16 + 7 * v + j
theorem vf_ps {t i j : Nat} : vf (10 * t + i) j = sf t (ps i j) := by unfold vf sf ps; omega
theorem ps_lt {v j : Nat} (hv : v < 5) (hj : j < 7) : ps v j < 51 := by unfold ps; omega
theorem lc_vget {t i j : Nat} {σ : Row} {m : Mem} (hi : i < 5) (hj : j < 7) : lay (70 * t) 54 σ m (vf (10 * t + i) j) = σ (ps i j) := by
  rw [vf_ps]; exact lc_get (Nat.lt_trans (ps_lt hi hj) (by decide))
theorem lc_vupd {t i j : Nat} {σ : Row} {m : Mem} {x : Int32} (hi : i < 5) (hj : j < 7) : upd (lay (70 * t) 54 σ m) (vf (10 * t + i) j) x = lay (70 * t) 54 (upd σ (ps i j) x) m := by
  rw [vf_ps]; exact lc_upd (Nat.lt_trans (ps_lt hi hj) (by decide))
theorem lm_0 {σ : Row} {m : Mem} : lay 4000 51 σ m 4000 = σ 0 := lay_in (b := 4000) (k := 0) (by decide)
theorem lmu_0 {σ : Row} {m : Mem} {x : Int32} : upd (lay 4000 51 σ m) 4000 x = lay 4000 51 (upd σ 0 x) m := lay_upd (b := 4000) (k := 0) (by decide)
theorem lm_1 {σ : Row} {m : Mem} : lay 4000 51 σ m 4001 = σ 1 := lay_in (b := 4000) (k := 1) (by decide)
theorem lmu_1 {σ : Row} {m : Mem} {x : Int32} : upd (lay 4000 51 σ m) 4001 x = lay 4000 51 (upd σ 1 x) m := lay_upd (b := 4000) (k := 1) (by decide)
theorem lm_2 {σ : Row} {m : Mem} : lay 4000 51 σ m 4002 = σ 2 := lay_in (b := 4000) (k := 2) (by decide)
theorem lmu_2 {σ : Row} {m : Mem} {x : Int32} : upd (lay 4000 51 σ m) 4002 x = lay 4000 51 (upd σ 2 x) m := lay_upd (b := 4000) (k := 2) (by decide)
theorem lm_3 {σ : Row} {m : Mem} : lay 4000 51 σ m 4003 = σ 3 := lay_in (b := 4000) (k := 3) (by decide)
theorem lmu_3 {σ : Row} {m : Mem} {x : Int32} : upd (lay 4000 51 σ m) 4003 x = lay 4000 51 (upd σ 3 x) m := lay_upd (b := 4000) (k := 3) (by decide)
theorem lm_4 {σ : Row} {m : Mem} : lay 4000 51 σ m 4004 = σ 4 := lay_in (b := 4000) (k := 4) (by decide)
theorem lmu_4 {σ : Row} {m : Mem} {x : Int32} : upd (lay 4000 51 σ m) 4004 x = lay 4000 51 (upd σ 4 x) m := lay_upd (b := 4000) (k := 4) (by decide)
theorem lm_5 {σ : Row} {m : Mem} : lay 4000 51 σ m 4005 = σ 5 := lay_in (b := 4000) (k := 5) (by decide)
theorem lmu_5 {σ : Row} {m : Mem} {x : Int32} : upd (lay 4000 51 σ m) 4005 x = lay 4000 51 (upd σ 5 x) m := lay_upd (b := 4000) (k := 5) (by decide)
theorem lm_6 {σ : Row} {m : Mem} : lay 4000 51 σ m 4006 = σ 6 := lay_in (b := 4000) (k := 6) (by decide)
theorem lmu_6 {σ : Row} {m : Mem} {x : Int32} : upd (lay 4000 51 σ m) 4006 x = lay 4000 51 (upd σ 6 x) m := lay_upd (b := 4000) (k := 6) (by decide)
theorem lm_7 {σ : Row} {m : Mem} : lay 4000 51 σ m 4007 = σ 7 := lay_in (b := 4000) (k := 7) (by decide)
theorem lmu_7 {σ : Row} {m : Mem} {x : Int32} : upd (lay 4000 51 σ m) 4007 x = lay 4000 51 (upd σ 7 x) m := lay_upd (b := 4000) (k := 7) (by decide)
theorem lm_8 {σ : Row} {m : Mem} : lay 4000 51 σ m 4008 = σ 8 := lay_in (b := 4000) (k := 8) (by decide)
theorem lmu_8 {σ : Row} {m : Mem} {x : Int32} : upd (lay 4000 51 σ m) 4008 x = lay 4000 51 (upd σ 8 x) m := lay_upd (b := 4000) (k := 8) (by decide)
theorem lm_9 {σ : Row} {m : Mem} : lay 4000 51 σ m 4009 = σ 9 := lay_in (b := 4000) (k := 9) (by decide)
theorem lmu_9 {σ : Row} {m : Mem} {x : Int32} : upd (lay 4000 51 σ m) 4009 x = lay 4000 51 (upd σ 9 x) m := lay_upd (b := 4000) (k := 9) (by decide)
theorem lm_10 {σ : Row} {m : Mem} : lay 4000 51 σ m 4010 = σ 10 := lay_in (b := 4000) (k := 10) (by decide)
theorem lmu_10 {σ : Row} {m : Mem} {x : Int32} : upd (lay 4000 51 σ m) 4010 x = lay 4000 51 (upd σ 10 x) m := lay_upd (b := 4000) (k := 10) (by decide)
theorem lm_11 {σ : Row} {m : Mem} : lay 4000 51 σ m 4011 = σ 11 := lay_in (b := 4000) (k := 11) (by decide)
theorem lmu_11 {σ : Row} {m : Mem} {x : Int32} : upd (lay 4000 51 σ m) 4011 x = lay 4000 51 (upd σ 11 x) m := lay_upd (b := 4000) (k := 11) (by decide)
theorem lm_12 {σ : Row} {m : Mem} : lay 4000 51 σ m 4012 = σ 12 := lay_in (b := 4000) (k := 12) (by decide)
theorem lmu_12 {σ : Row} {m : Mem} {x : Int32} : upd (lay 4000 51 σ m) 4012 x = lay 4000 51 (upd σ 12 x) m := lay_upd (b := 4000) (k := 12) (by decide)
theorem lm_13 {σ : Row} {m : Mem} : lay 4000 51 σ m 4013 = σ 13 := lay_in (b := 4000) (k := 13) (by decide)
theorem lmu_13 {σ : Row} {m : Mem} {x : Int32} : upd (lay 4000 51 σ m) 4013 x = lay 4000 51 (upd σ 13 x) m := lay_upd (b := 4000) (k := 13) (by decide)
theorem lm_14 {σ : Row} {m : Mem} : lay 4000 51 σ m 4014 = σ 14 := lay_in (b := 4000) (k := 14) (by decide)
theorem lmu_14 {σ : Row} {m : Mem} {x : Int32} : upd (lay 4000 51 σ m) 4014 x = lay 4000 51 (upd σ 14 x) m := lay_upd (b := 4000) (k := 14) (by decide)
theorem lm_15 {σ : Row} {m : Mem} : lay 4000 51 σ m 4015 = σ 15 := lay_in (b := 4000) (k := 15) (by decide)
theorem lmu_15 {σ : Row} {m : Mem} {x : Int32} : upd (lay 4000 51 σ m) 4015 x = lay 4000 51 (upd σ 15 x) m := lay_upd (b := 4000) (k := 15) (by decide)
theorem some_ite {P : Prop} [Decidable P] {a b : Int32} {M : Mem} : (if P then some (a, M) else some (b, M)) = some (if P then a else b, M) := by split <;> rfl
theorem some_iteM {P : Prop} [Decidable P] {a b : Mem} : (if P then some a else some b) = some (if P then a else b) := by split <;> rfl
