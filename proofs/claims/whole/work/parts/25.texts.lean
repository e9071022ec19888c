/-! PURE: frames; texts and what they give -/
def Fr (L : List (Nat × Nat)) (m m' : Mem) : Prop := ∀ k, (∀ p ∈ L, k < p.1 ∨ p.2 ≤ k) → m' k = m k
theorem Fr.refl {m : Mem} : Fr [] m m := fun _ _ => rfl
theorem Fr.trans {L1 L2 : List (Nat × Nat)} {a b c : Mem} (h1 : Fr L1 a b) (h2 : Fr L2 b c) : Fr (L1 ++ L2) a c := fun k hk => (h2 k (fun p hp => hk p (List.mem_append_right _ hp))).trans (h1 k (fun p hp => hk p (List.mem_append_left _ hp)))
theorem Fr.sub {L1 L2 : List (Nat × Nat)} {a b : Mem} (h : Fr L1 a b) (hs : ∀ p ∈ L1, p ∈ L2) : Fr L2 a b := fun k hk => h k (fun p hp => hk p (hs p hp))
theorem Fr.lay {b n : Nat} {σ : Row} {m : Mem} : Fr [(b, b + n)] m (lay b n σ m) := fun k hk => lay_out (by have := hk (b, b + n) List.mem_cons_self; omega)
theorem Fr.up {k : Nat} {x : Int32} {m : Mem} : Fr [(k, k + 1)] m (upd m k x) := fun j hj => pk_un (by have := hj (k, k + 1) List.mem_cons_self; simp only at this; omega)
theorem Fr.sc {m m' : Mem} (h : SC m m') : Fr [(800, 896)] m m' := fun k hk => h k (by have := hk (800, 896) List.mem_cons_self; simp only at this; omega)
theorem Fr.sm {m m' : Mem} (h : SM m m') : Fr [(3700, 3804), (3001, 3002)] m m' := fun k hk => h k (by have := hk (3700, 3804) (by simp); simp only at this; omega) (by have := hk (3001, 3002) (by simp); simp only at this; omega)
def disj (L S : List (Nat × Nat)) : Bool := L.all fun p => S.all fun q => Nat.ble p.2 q.1 || Nat.ble q.2 p.1
def onS (S : List (Nat × Nat)) (k : Nat) : Prop := ∃ q ∈ S, q.1 ≤ k ∧ k < q.2
theorem Fr.on {L S : List (Nat × Nat)} {m m' : Mem} (h : Fr L m m') (hd : disj L S = true) : ∀ k, onS S k → m' k = m k := by
  intro k ⟨q, hq, h1, h2⟩
  refine h k (fun p hp => ?_)
  have := List.all_eq_true.mp (List.all_eq_true.mp hd p hp) q hq
  simp only [Bool.or_eq_true, Nat.ble_eq] at this
  omega
/-! tokens, as the class keeps them -/
abbrev isA (c : Int32) : Prop := ¬ c < -3
def encM (c : Int32) : Int32 := if c < -3 then (if c = -33 then -10 else if c = -38 then -2 else if c = -42 then -8 else if c = -43 then -6 else if c = -45 then -7 else if c = -60 then -3 else if c = -61 then -4 else if c = -62 then -5 else if c = -124 then -1 else -9) else if c < 0 then (if c = -1 then 10000 else if c = -2 then 10001 else 10002) else c
def tokV (c a b d : Int32) : Int32 := if c < 0 then (if c = -1 then a else if c = -2 then b else d) else c
def joinP (c x y : Int32) : Int32 := if c = -38 then (if x = 0 then 0 else if y = 0 then 0 else 1) else if c = -42 then x * y else if c = -43 then x + y else if c = -45 then x - y else if c = -60 then (if y ≤ x then 0 else 1) else if c = -61 then (if x = y then 1 else 0) else if c = -62 then (if x ≤ y then 0 else 1) else if c = -124 then (if x = 0 then (if y = 0 then 0 else 1) else 1) else (if y = 0 then 0 else x / y)
def dN (c : Row) : Nat → Nat
  | 0 => 0
  | i + 1 => if isA (c i) then dN c i + 1 else if c i = -33 then dN c i else dN c i - 1
def stN (c : Row) (a b d : Int32) (S0 : Row) : Nat → Row
  | 0 => S0
  | i + 1 => if isA (c i) then upd (stN c a b d S0 i) (dN c i) (tokV (c i) a b d) else if c i = -33 then upd (stN c a b d S0 i) (dN c i - 1) (if stN c a b d S0 i (dN c i - 1) = 0 then 1 else 0) else upd (stN c a b d S0 i) (dN c i - 2) (joinP (c i) (stN c a b d S0 i (dN c i - 2)) (stN c a b d S0 i (dN c i - 1)))
def okS (c : Int32) : Bool := decide (c = -33 ∨ c = -38 ∨ c = -42 ∨ c = -43 ∨ c = -45 ∨ c = -47 ∨ c = -60 ∨ c = -61 ∨ c = -62 ∨ c = -124)
/-- a row of tokens that can be worked out -/
def RPN (key : Nat) (c : Row) (z : Nat) : Prop := z ≤ 96 ∧ 1 ≤ dN c z ∧ ∀ i, i < z → (isA (c i) → c i ≤ 9999 ∧ (¬ key = 0 → ¬ c i = -3)) ∧ (¬ isA (c i) → okS (c i) = true) ∧ (c i = -33 → 1 ≤ dN c i) ∧ (¬ isA (c i) → ¬ c i = -33 → 2 ≤ dN c i)
theorem dN_le {c : Row} : ∀ i, dN c i ≤ i := by
  intro i
  induction i with
  | zero => exact Nat.le_refl _
  | succ i ih =>
    rw [dN]
    split
    · omega
    · split <;> omega
theorem dN_congr {c c' : Row} {z : Nat} (h : ∀ i, i < z → c' i = c i) : ∀ i, i ≤ z → dN c' i = dN c i := by
  intro i
  induction i with
  | zero => intro _; rfl
  | succ i ih => intro hi; rw [dN, dN, ih (by omega), h i (by omega)]
theorem stN_congr {c c' : Row} {a b d : Int32} {S0 : Row} {z : Nat} (h : ∀ i, i < z → c' i = c i) : ∀ i, i ≤ z → stN c' a b d S0 i = stN c a b d S0 i := by
  intro i
  induction i with
  | zero => intro _; rfl
  | succ i ih => intro hi; rw [stN, stN, ih (by omega), h i (by omega), dN_congr h i (by omega)]
theorem RPN.congr {key : Nat} {c c' : Row} {z : Nat} (hr : RPN key c z) (h : ∀ i, i < z → c' i = c i) : RPN key c' z := by
  obtain ⟨h1, h2, h3⟩ := hr
  refine ⟨h1, by rw [dN_congr h z (Nat.le_refl _)]; exact h2, fun i hi => ?_⟩
  rw [h i hi, dN_congr h i (by omega)]
  exact h3 i hi
theorem stN_indep {key : Nat} {c : Row} {z : Nat} {a b d d' : Int32} {S0 S1 : Row} (hr : RPN key c z) (hd : ¬ key = 0 ∨ d = d') : ∀ i, i ≤ z → ∀ j, j < dN c i → stN c a b d S0 i j = stN c a b d' S1 i j := by
  intro i
  induction i with
  | zero => intro _ j hj; exact absurd hj (by rw [dN]; omega)
  | succ i ih =>
    intro hi j hj
    have hI := ih (by omega)
    obtain ⟨h1, h2, h3, h4⟩ := hr.2.2 i (by omega)
    rw [stN, stN]
    rw [dN] at hj
    by_cases hA : isA (c i)
    · rw [if_pos hA] at hj
      rw [if_pos hA, if_pos hA]
      have et : tokV (c i) a b d = tokV (c i) a b d' := by
        rcases hd with hd | hd
        · have h3n := (h1 hA).2 hd
          unfold tokV
          by_cases c0 : c i < 0
          · rw [if_pos c0, if_pos c0]
            by_cases c1 : c i = -1
            · rw [if_pos c1, if_pos c1]
            · by_cases c2 : c i = -2
              · rw [if_neg c1, if_neg c1, if_pos c2, if_pos c2]
              · exfalso
                have i1 := ne_k (-1) (by decide) c1
                have i2 := ne_k (-2) (by decide) c2
                have i3 := ne_k (-3) (by decide) h3n
                have i0 := Int32.lt_iff_toInt_lt.mp c0
                have iA : ¬ (c i).toInt < (-3 : Int32).toInt := fun z => hA (Int32.lt_iff_toInt_lt.mpr z)
                have e0 : (0 : Int32).toInt = 0 := by decide
                have e3 : (-3 : Int32).toInt = -3 := by decide
                omega
          · rw [if_neg c0, if_neg c0]
        · rw [hd]
      rw [et]
      unfold upd
      by_cases e : j = dN c i
      · rw [if_pos e, if_pos e]
      · rw [if_neg e, if_neg e]
        exact hI j (by omega)
    · rw [if_neg hA] at hj
      rw [if_neg hA, if_neg hA]
      by_cases hN : c i = -33
      · rw [if_pos hN] at hj
        rw [if_pos hN, if_pos hN, hI (dN c i - 1) (by have := h3 hN; omega)]
        unfold upd
        by_cases e : j = dN c i - 1
        · rw [if_pos e, if_pos e]
        · rw [if_neg e, if_neg e]
          exact hI j hj
      · rw [if_neg hN] at hj
        have := h4 hA hN
        rw [if_neg hN, if_neg hN, hI (dN c i - 1) (by omega), hI (dN c i - 2) (by omega)]
        unfold upd
        by_cases e : j = dN c i - 2
        · rw [if_pos e, if_pos e]
        · rw [if_neg e, if_neg e]
          exact hI j (by omega)
def giveV (c : Row) (z : Nat) (a b d : Int32) : Int32 := stN c a b d (fun _ => 0) z 0
theorem cjoin_ev {fu : Nat} {c x y : Int32} {m : Mem} (h : okS c = true) (hA : ¬ c = -33) : f_X6_join fu (-c) x y m = some (joinP c x y, m) := by
  have h := of_decide_eq_true h
  unfold f_X6_join f_X6_join_84 joinP
  rcases h with rfl | rfl | rfl | rfl | rfl | rfl | rfl | rfl | rfl | rfl
  · exact absurd rfl hA
  all_goals simp [some_ite, nz, chk]
  all_goals (repeat' split) <;> simp_all [chk]
theorem mtwo_ev {fu : Nat} {c x y : Int32} {m : Mem} (h : okS c = true) (hA : ¬ c = -33) : f_X9_two fu (encM c) x y m = some (joinP c x y, m) := by
  have h := of_decide_eq_true h
  unfold f_X9_two f_X9_two_56 joinP
  rcases h with rfl | rfl | rfl | rfl | rfl | rfl | rfl | rfl | rfl | rfl
  · exact absurd rfl hA
  all_goals simp [encM, some_ite, nz, chk]
  all_goals (repeat' split) <;> simp_all [chk]
theorem atom_neg {c : Int32} (hA : isA c) (h0 : c < 0) : c = -1 ∨ c = -2 ∨ c = -3 := by
  have i0 := Int32.lt_iff_toInt_lt.mp h0
  have iA : ¬ c.toInt < (-3 : Int32).toInt := fun z => hA (Int32.lt_iff_toInt_lt.mpr z)
  have e0 : (0 : Int32).toInt = 0 := by decide
  have e3 : (-3 : Int32).toInt = -3 := by decide
  have e2 : (-2 : Int32).toInt = -2 := by decide
  have e1 : (-1 : Int32).toInt = -1 := by decide
  rcases (show c.toInt = -1 ∨ c.toInt = -2 ∨ c.toInt = -3 by omega) with h | h | h
  · exact Or.inl (Int32.toInt_inj.mp (by rw [h, e1]))
  · exact Or.inr (Or.inl (Int32.toInt_inj.mp (by rw [h, e2])))
  · exact Or.inr (Or.inr (Int32.toInt_inj.mp (by rw [h, e3])))
theorem isA_not33 {c : Int32} (h : c = -33) : ¬ isA c := by rw [h]; decide
theorem enc_sign {c : Int32} (h : okS c = true) : encM c < 0 ∧ (encM c = -10 ↔ c = -33) := by
  have h := of_decide_eq_true h
  rcases h with rfl | rfl | rfl | rfl | rfl | rfl | rfl | rfl | rfl | rfl <;> decide
section TXT
variable {fu key z t : Nat} {c S0 : Row} {m : Mem} {a b d : Int32}
theorem stk_get {i : Nat} {S : Row} (hi : i < 96) : lay 800 96 S m (800 + i) = S i := lay_in hi
theorem cgive_L (ht : t < 14) (hr : RPN key c z) (hc : ∀ i, i < z → m (1100 + 96 * t + i) = c i) : ∀ (f i : Nat), i ≤ z → z - i < f → f_X6_give_40 fu f a b d t (nI z) (nI (dN c i)) (nI i) (lay 800 96 (stN c a b d S0 i) m) = some (stN c a b d S0 z 0, lay 800 96 (stN c a b d S0 z) m) := by
  obtain ⟨hz, hd, hk⟩ := hr
  intro f
  induction f with
  | zero => intro i _ h; omega
  | succ f ih =>
    intro i hi hf
    rw [f_X6_give_40]
    by_cases he : i = z
    · subst he
      rw [if_pos (nI_le (Nat.le_refl _) (by omega)), if_pos (by rw [show (1 : Int32) = nI 1 from rfl]; exact nI_le hd (by have := @dN_le c i; omega))]
      simp only [Int32.reduceToNatClampNeg]
      rw [stk_get (by decide)]
    · have hz2 : i < z := by omega
      obtain ⟨h1, h2, h3, h4⟩ := hk i hz2
      have hdl := @dN_le c i
      rw [if_neg (nI_ge (by omega) (by omega)), inb_nI (by omega) (by decide), chk_t, nI_clamp (by omega), seqM_eq, lay_out (by omega), hc i hz2]
      have hn := ih (i + 1) (by omega) (by omega)
      rw [stN, dN] at hn
      have n96 : ¬ (96 : Int32) ≤ nI (dN c i) := by rw [show (96 : Int32) = nI 96 from rfl]; exact nI_ge (by omega) (by decide)
      have push : ∀ y : Int32, y = tokV (c i) a b d → isA (c i) → f_X6_give_94 fu (f_X6_give_40 fu f) a b d t (nI z) (nI (dN c i)) (nI i) y (lay 800 96 (stN c a b d S0 i) m) = some (stN c a b d S0 z 0, lay 800 96 (stN c a b d S0 z) m) := by
        intro y hy hA
        unfold f_X6_give_94 f_X6_give_115 f_X6_give_200
        rw [if_neg n96, inb_nI (by omega) (by decide), chk_t, nI_clamp (by omega)]
        simp only [doI_some, doV_some, seqM_eq, chk_t, nI_1]
        rw [lay_upd (by omega), hy]
        rw [if_pos hA, if_pos hA] at hn
        exact hn
      by_cases hA : isA (c i)
      · rw [if_neg hA]
        by_cases h0 : c i < 0
        · rw [if_pos h0]
          by_cases e1 : c i = -1
          · rw [if_pos e1]
            exact push a (by unfold tokV; rw [if_pos h0, if_pos e1]) hA
          · rw [if_neg e1]
            by_cases e2 : c i = -2
            · rw [if_pos e2]
              exact push b (by unfold tokV; rw [if_pos h0, if_neg e1, if_pos e2]) hA
            · rw [if_neg e2]
              exact push d (by unfold tokV; rw [if_pos h0, if_neg e1, if_neg e2]) hA
        · rw [if_neg h0]
          exact push (c i) (by unfold tokV; rw [if_neg h0]) hA
      · rw [if_pos (by
          rcases Decidable.em (c i < -3) with q | q
          · exact q
          · exact absurd q hA)]
        rw [if_neg hA, if_neg hA] at hn
        by_cases hN : c i = -33
        · have hd1 := h3 hN
          rw [if_pos hN, if_neg (by rw [show (1 : Int32) = nI 1 from rfl]; exact nI_nlt hd1 (by omega))]
          rw [if_pos hN, if_pos hN] at hn
          have es : nI (dN c i) - 1 = nI (dN c i - 1) := by rw [show (1 : Int32) = nI 1 from rfl, pk_sub hd1]
          unfold f_X6_give_156 f_X6_give_200
          rw [es, inb_nI (by omega) (by decide), chk_t, nI_clamp (by omega), stk_get (by omega)]
          simp only [doI_some, doV_some, seqM_eq, chk_t, nI_1]
          by_cases hz0 : stN c a b d S0 i (dN c i - 1) = 0
          · rw [if_pos hz0, lay_upd (by omega)]
            rw [if_pos hz0] at hn
            exact hn
          · rw [if_neg hz0, lay_upd (by omega)]
            rw [if_neg hz0] at hn
            exact hn
        · have hd2 := h4 hA hN
          rw [if_neg hN, if_neg (by rw [show (2 : Int32) = nI 2 from rfl]; exact nI_nlt hd2 (by omega))]
          rw [if_neg hN, if_neg hN] at hn
          have es : nI (dN c i) + (-1) = nI (dN c i - 1) := by
            have := pk_m1 (dN c i - 1)
            rw [show dN c i - 1 + 1 = dN c i by omega] at this
            exact this
          have es2 : nI (dN c i - 1) - 1 = nI (dN c i - 2) := by rw [show (1 : Int32) = nI 1 from rfl, pk_sub (by omega)]; rfl
          simp only [seqM_eq, es, es2]
          rw [inb_nI (show dN c i - 2 < 96 by omega) (by decide), inb_nI (show dN c i - 1 < 96 by omega) (by decide)]
          simp only [chk_t]
          rw [nI_clamp (show dN c i - 2 < 2 ^ 31 by omega), nI_clamp (show dN c i - 1 < 2 ^ 31 by omega), stk_get (by omega), stk_get (by omega), cjoin_ev (h2 hA) hN]
          simp only [doI_some, doV_some, seqM_eq, chk_t, f_X6_give_200, nI_1]
          rw [lay_upd (by omega)]
          exact hn
theorem cgive_ev (ht : t < 14) (hf : 96 < fu) (hr : RPN key c z) (hz : m (tf t 2) = nI z) (hc : ∀ i, i < z → m (1100 + 96 * t + i) = c i) : ∃ m2, SC m m2 ∧ f_X6_give fu (nI t) a b d m = some (giveV c z a b d, m2) := by
  have hm : m = lay 800 96 (fun k => m (800 + k)) m := lay_id.symm
  have hL := cgive_L (fu := fu) (a := a) (b := b) (d := d) (S0 := fun k => m (800 + k)) ht hr hc fu 0 (Nat.zero_le _) (by have := hr.1; omega)
  refine ⟨lay 800 96 (stN c a b d (fun k => m (800 + k)) z) m, fun k hk => lay_out (by omega), ?_⟩
  unfold f_X6_give giveV
  rw [if_neg (nI_pos (by omega)), if_pos (by rw [show (14 : Int32) = nI 14 from rfl]; exact nI_lt ht (by decide)), inb_nI ht (by decide)]
  simp only [doI_some, doV_some, seqM_eq, chk_t]
  rw [nI_clamp (by omega), hz]
  rw [stN, dN, ← hm] at hL
  rw [show (0 : Int32) = nI 0 from rfl, hL]
  congr 2
  exact stN_indep hr (Or.inr rfl) z (Nat.le_refl _) 0 hr.2.1
theorem mwork_L (ht : t < 14) (hr : RPN key c z) (hc : ∀ i, i < z → m (4079 + 96 * t + i) = encM (c i)) (hfa : m 3800 = a) (hfb : m 3801 = b) (hfd : m 3802 = d) : ∀ (f i : Nat), i ≤ z → z - i < f → f_X9_worksOut_21 fu f (nI t) (nI (dN c i)) (nI z) (nI i) (lay 3700 96 (stN c a b d S0 i) m) = some (stN c a b d S0 z 0, lay 3700 96 (stN c a b d S0 z) m) := by
  obtain ⟨hz, hd, hk⟩ := hr
  intro f
  induction f with
  | zero => intro i _ h; omega
  | succ f ih =>
    intro i hi hf
    rw [f_X9_worksOut_21]
    by_cases he : i = z
    · subst he
      rw [if_pos (nI_le (Nat.le_refl _) (by omega))]
      simp only [Int32.reduceToNatClampNeg]
      rw [lay_in (show 0 < 96 by decide)]
    · have hz2 : i < z := by omega
      obtain ⟨h1, h2, h3, h4⟩ := hk i hz2
      have hdl := @dN_le c i
      have eix : (79 + 96 * nI t) + nI i = nI (79 + 96 * t + i) := by
        rw [show (79 : Int32) = nI 79 from rfl, show (96 : Int32) = nI 96 from rfl, pk_mul, nI_add, nI_add]
      rw [if_neg (nI_ge (by omega) (by omega)), eix, inb_nI (by omega) (by decide), chk_t, nI_clamp (by omega), seqM_eq, lay_out (by omega), show 4000 + 1500 * 0 + (79 + 96 * t + i) = 4079 + 96 * t + i by omega, hc i hz2]
      have hn := ih (i + 1) (by omega) (by omega)
      rw [stN, dN] at hn
      have push : ∀ y : Int32, y = tokV (c i) a b d → isA (c i) → f_X9_worksOut_78 fu (f_X9_worksOut_21 fu f) (nI t) (nI (dN c i)) (nI z) (nI i) (nI (dN c i)) y (lay 3700 96 (stN c a b d S0 i) m) = some (stN c a b d S0 z 0, lay 3700 96 (stN c a b d S0 z) m) := by
        intro y hy hA
        unfold f_X9_worksOut_78 f_X9_worksOut_149
        rw [inb_nI (by omega) (by decide), chk_t, nI_clamp (by omega)]
        simp only [doI_some, doV_some, seqM_eq, chk_t, nI_1]
        rw [lay_upd (by omega), hy]
        rw [if_pos hA, if_pos hA] at hn
        exact hn
      by_cases hA : isA (c i)
      · have hle := (h1 hA).1
        by_cases h0 : c i < 0
        · rcases atom_neg hA h0 with e | e | e
          · have em : encM (c i) = 10000 := by rw [e]; decide
            rw [em, if_neg (by decide), if_pos (by decide), show inb ((10000 : Int32) - 10000) 4 = true by decide, chk_t, show ((10000 : Int32) - 10000).toNatClampNeg = 0 by decide, lay_out (by decide)]
            exact push _ (by unfold tokV; rw [if_pos h0, if_pos e]; exact hfa) hA
          · have em : encM (c i) = 10001 := by rw [e]; decide
            rw [em, if_neg (by decide), if_pos (by decide), show inb ((10001 : Int32) - 10000) 4 = true by decide, chk_t, show ((10001 : Int32) - 10000).toNatClampNeg = 1 by decide, lay_out (by decide)]
            exact push _ (by unfold tokV; rw [if_pos h0, if_neg (by rw [e]; decide), if_pos e]; exact hfb) hA
          · have em : encM (c i) = 10002 := by rw [e]; decide
            rw [em, if_neg (by decide), if_pos (by decide), show inb ((10002 : Int32) - 10000) 4 = true by decide, chk_t, show ((10002 : Int32) - 10000).toNatClampNeg = 2 by decide, lay_out (by decide)]
            exact push _ (by unfold tokV; rw [if_pos h0, if_neg (by rw [e]; decide), if_neg (by rw [e]; decide)]; exact hfd) hA
        · have em : encM (c i) = c i := by unfold encM; rw [if_neg hA, if_neg h0]
          have hge : ¬ (10000 : Int32) ≤ c i := by
            intro q
            have a1 := Int32.le_iff_toInt_le.mp hle
            have a2 := Int32.le_iff_toInt_le.mp q
            have e1 : (9999 : Int32).toInt = 9999 := by decide
            have e2 : (10000 : Int32).toInt = 10000 := by decide
            omega
          rw [em, if_neg h0, if_neg hge]
          exact push (c i) (by unfold tokV; rw [if_neg h0]) hA
      · have hs := enc_sign (h2 hA)
        rw [if_pos hs.1]
        rw [if_neg hA, if_neg hA] at hn
        by_cases hN : c i = -33
        · have hd1 := h3 hN
          rw [if_pos (hs.2.mpr hN)]
          rw [if_pos hN, if_pos hN] at hn
          have es : nI (dN c i) - 1 = nI (dN c i - 1) := by rw [show (1 : Int32) = nI 1 from rfl, pk_sub hd1]
          unfold f_X9_worksOut_115 f_X9_worksOut_149
          rw [es, inb_nI (by omega) (by decide), chk_t, nI_clamp (by omega), lay_in (show dN c i - 1 < 96 by omega)]
          simp only [doI_some, doV_some, seqM_eq, chk_t, nI_1]
          by_cases hz0 : stN c a b d S0 i (dN c i - 1) = 0
          · rw [if_pos hz0, lay_upd (by omega)]
            rw [if_pos hz0] at hn
            exact hn
          · rw [if_neg hz0, lay_upd (by omega)]
            rw [if_neg hz0] at hn
            exact hn
        · have hd2 := h4 hA hN
          rw [if_neg (fun q => hN (hs.2.mp q))]
          rw [if_neg hN, if_neg hN] at hn
          have es : nI (dN c i) + (-1) = nI (dN c i - 1) := by
            have := pk_m1 (dN c i - 1)
            rw [show dN c i - 1 + 1 = dN c i by omega] at this
            exact this
          have es2 : nI (dN c i - 1) - 1 = nI (dN c i - 2) := by rw [show (1 : Int32) = nI 1 from rfl, pk_sub (by omega)]; rfl
          simp only [seqM_eq, es, es2]
          rw [inb_nI (show dN c i - 2 < 96 by omega) (by decide), inb_nI (show dN c i - 1 < 96 by omega) (by decide)]
          simp only [chk_t]
          rw [nI_clamp (show dN c i - 2 < 2 ^ 31 by omega), nI_clamp (show dN c i - 1 < 2 ^ 31 by omega), lay_in (show dN c i - 2 < 96 by omega), lay_in (show dN c i - 1 < 96 by omega), mtwo_ev (h2 hA) hN]
          simp only [doI_some, doV_some, seqM_eq, chk_t, f_X9_worksOut_149, nI_1]
          rw [lay_upd (by omega)]
          exact hn
theorem mwork_ev (ht : t < 14) (hf : 96 < fu) (hr : RPN key c z) {k : Nat} (hk : k < 3) (hz : m (4051 + 2 * t) = nI (1000 * k + z)) (hc : ∀ i, i < z → m (4079 + 96 * t + i) = encM (c i)) (hfa : m 3800 = a) (hfb : m 3801 = b) (hfd : key = 0 → m 3802 = d) : ∃ m2, (∀ j, ¬ (3700 ≤ j ∧ j < 3796) → m2 j = m j) ∧ f_X9_worksOut fu (nI t) m = some (giveV c z a b d, m2) := by
  have hm : m = lay 3700 96 (fun k => m (3700 + k)) m := lay_id.symm
  have hL := mwork_L (fu := fu) (a := a) (b := b) (d := m 3802) (S0 := fun k => m (3700 + k)) ht hr hc hfa hfb rfl fu 0 (Nat.zero_le _) (by have := hr.1; omega)
  refine ⟨lay 3700 96 (stN c a b (m 3802) (fun k => m (3700 + k)) z) m, fun k hk => lay_out (by omega), ?_⟩
  unfold f_X9_worksOut giveV
  have eix : 51 + 2 * nI t = nI (51 + 2 * t) := by rw [show (51 : Int32) = nI 51 from rfl, show (2 : Int32) = nI 2 from rfl, pk_mul, nI_add]
  have hz96 := hr.1
  rw [eix, inb_nI (by omega) (by decide), chk_t, nI_clamp (by omega), show 4000 + 1500 * 0 + (51 + 2 * t) = 4051 + 2 * t by omega, hz]
  have er : irem (nI (1000 * k + z)) 1000 = nI z := by
    unfold irem
    rw [show (1000 : Int32) = nI 1000 from rfl, pk_rem (by omega) (by decide) (by decide), Nat.mul_add_mod, Nat.mod_eq_of_lt (by omega)]
  rw [er, seqM_eq]
  rw [stN, dN, ← hm] at hL
  rw [show (0 : Int32) = nI 0 from rfl, hL]
  congr 2
  refine stN_indep hr ?_ z (Nat.le_refl _) 0 hr.2.1
  rcases Decidable.em (key = 0) with q | q
  · exact Or.inr (hfd q)
  · exact Or.inl q
end TXT
