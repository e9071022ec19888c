/-! PURE: what a studio's row does, and the reference's own steps on its row -/
def drawZ (z : Int32) : Int32 := z * 1103515245 + 12345
def talksP (k t : Int32) : Int32 := if k = 2 then t / 2 + 1 else if k = 3 then t + 5 else if k = 4 then t / 2 + 1 else if k = 5 then 1 else t
def worthP (k t : Int32) : Int32 := if k = 1 then t + 9 else if k = 2 then 99 - t else if k = 3 then 2 * (t + 9) else if k = 4 then 92 - t else if k = 5 then 3 else t
def hostP (p : Int32) : Int32 := if 3 ≤ p then p - 2 else 1
def waitsP (k p : Int32) : Int32 := if k = 1 then hostP p else if k = 2 then p + 3 else if k = 3 then (if 2 ≤ hostP p then hostP p / 2 else 1) else if k = 4 then 2 * (p + 3) else p
def plainS (σ : Row) (v : Nat) : Int32 := σ (ps v 1) + σ (ps v 5) + (if σ 14 = nI v then σ (ps v 3) else 0)
def waitsS (σ : Row) (v : Nat) : Int32 := waitsP (σ (ps v 0)) (plainS σ v)
def talksS (σ : Row) (v : Nat) : Int32 := talksP (σ (ps v 0)) (σ (ps v 2))
def worthS (σ : Row) (v : Nat) : Int32 := worthP (σ (ps v 0)) (σ (ps v 2))
abbrev yieldsP (k : Int32) : Prop := ¬ k = 1 ∧ ¬ k = 3
abbrev readyS (σ : Row) (v : Nat) : Prop := ¬ σ (ps v 0) = 5 ∧ ¬ σ 6 < waitsS σ v
def speakN (σ : Row) : Nat → Nat
  | 0 => 0
  | n + 1 => speakN σ n + (if 0 < σ (ps n 4) then 2 ^ n else 0)
def readyN (σ : Row) : Nat → Nat
  | 0 => 0
  | n + 1 => readyN σ n + (if readyS σ n then 2 ^ n else 0)
def beginS (σ : Row) (v : Nat) : Row := upd (upd (upd (upd σ 0 (drawZ (σ 0))) (ps v 4) (1 + irem (ushr (drawZ (σ 0)) 8) (talksS σ v))) (ps v 6) (σ (ps v 6) + 1)) (ps v 5) 0
def backS (σ : Row) (v : Nat) : Row := upd (upd σ 0 (drawZ (σ 0))) (ps v 5) (irem (ushr (drawZ (σ 0)) 8) 6)
theorem mask_lt {f : Nat → Prop} [∀ n, Decidable (f n)] {g : Nat → Nat} (h0 : g 0 = 0) (hs : ∀ n, g (n + 1) = g n + (if f n then 2 ^ n else 0)) : ∀ n, g n < 2 ^ n := by
  intro n
  induction n with
  | zero => rw [h0]; decide
  | succ n ih =>
    rw [hs, Nat.pow_succ]
    by_cases h : f n
    · rw [if_pos h]; omega
    · rw [if_neg h]; omega
theorem speakN_lt {σ : Row} (n : Nat) : speakN σ n < 2 ^ n := mask_lt (f := fun n => 0 < σ (ps n 4)) rfl (fun _ => rfl) n
theorem readyN_lt {σ : Row} (n : Nat) : readyN σ n < 2 ^ n := mask_lt (f := fun n => readyS σ n) rfl (fun _ => rfl) n
theorem or_bit0 : ∀ i, i < 5 → ∀ a, a < 2 ^ i → nI a ||| ((1 : Int32) <<< (nI i &&& 31)) = nI (a + 2 ^ i) := by decide +kernel
theorem or_zero (x : Int32) : x ||| 0 = x := by
  apply Int32.toBitVec_inj.mp
  simp
theorem bit_eq : ∀ i, i < 5 → (1 : Int32) <<< (nI i &&& 31) = nI (2 ^ i) := by decide +kernel
/-! the reference's row lies at 4000 -/
theorem ix_ps {v j : Nat} : (16 + 7 * nI v) + nI j = nI (ps v j) := by
  rw [show (16 : Int32) = nI 16 from rfl, show (7 : Int32) = nI 7 from rfl, pk_mul, nI_add, nI_add]
  rfl
section MROW
variable {fu n v : Nat} {σ : Row} {m : Mem} {x : Int32}
theorem of_ev {j : Nat} (hv : v < 5) (hj : j < 7) : f_X9_of fu (nI v) (nI j) (lay 4000 51 σ m) = some (σ (ps v j), lay 4000 51 σ m) := by
  have hp := ps_lt hv hj
  unfold f_X9_of
  rw [ix_ps, inb_nI (by omega) (by decide), chk_t, nI_clamp (by omega)]
  rw [show 4000 + 1500 * 0 + ps v j = 4000 + ps v j from rfl, lay_in hp]
theorem put_ev {j : Nat} (hv : v < 5) (hj : j < 7) : f_X9_put fu (nI v) (nI j) x (lay 4000 51 σ m) = some (lay 4000 51 (upd σ (ps v j) x) m) := by
  have hp := ps_lt hv hj
  unfold f_X9_put
  rw [ix_ps, inb_nI (by omega) (by decide), chk_t, nI_clamp (by omega), seqM_eq]
  rw [show 4000 + 1500 * 0 + ps v j = 4000 + ps v j from rfl, lay_upd hp]
theorem of_0 (hv : v < 5) : f_X9_of fu (nI v) 0 (lay 4000 51 σ m) = some (σ (ps v 0), lay 4000 51 σ m) := of_ev hv (j := 0) (by decide)
theorem of_1 (hv : v < 5) : f_X9_of fu (nI v) 1 (lay 4000 51 σ m) = some (σ (ps v 1), lay 4000 51 σ m) := of_ev hv (j := 1) (by decide)
theorem of_2 (hv : v < 5) : f_X9_of fu (nI v) 2 (lay 4000 51 σ m) = some (σ (ps v 2), lay 4000 51 σ m) := of_ev hv (j := 2) (by decide)
theorem of_3 (hv : v < 5) : f_X9_of fu (nI v) 3 (lay 4000 51 σ m) = some (σ (ps v 3), lay 4000 51 σ m) := of_ev hv (j := 3) (by decide)
theorem of_4 (hv : v < 5) : f_X9_of fu (nI v) 4 (lay 4000 51 σ m) = some (σ (ps v 4), lay 4000 51 σ m) := of_ev hv (j := 4) (by decide)
theorem of_5 (hv : v < 5) : f_X9_of fu (nI v) 5 (lay 4000 51 σ m) = some (σ (ps v 5), lay 4000 51 σ m) := of_ev hv (j := 5) (by decide)
theorem of_6 (hv : v < 5) : f_X9_of fu (nI v) 6 (lay 4000 51 σ m) = some (σ (ps v 6), lay 4000 51 σ m) := of_ev hv (j := 6) (by decide)
theorem put_0 (hv : v < 5) : f_X9_put fu (nI v) 0 x (lay 4000 51 σ m) = some (lay 4000 51 (upd σ (ps v 0) x) m) := put_ev hv (j := 0) (by decide)
theorem put_1 (hv : v < 5) : f_X9_put fu (nI v) 1 x (lay 4000 51 σ m) = some (lay 4000 51 (upd σ (ps v 1) x) m) := put_ev hv (j := 1) (by decide)
theorem put_2 (hv : v < 5) : f_X9_put fu (nI v) 2 x (lay 4000 51 σ m) = some (lay 4000 51 (upd σ (ps v 2) x) m) := put_ev hv (j := 2) (by decide)
theorem put_4 (hv : v < 5) : f_X9_put fu (nI v) 4 x (lay 4000 51 σ m) = some (lay 4000 51 (upd σ (ps v 4) x) m) := put_ev hv (j := 4) (by decide)
theorem put_5 (hv : v < 5) : f_X9_put fu (nI v) 5 x (lay 4000 51 σ m) = some (lay 4000 51 (upd σ (ps v 5) x) m) := put_ev hv (j := 5) (by decide)
theorem put_6 (hv : v < 5) : f_X9_put fu (nI v) 6 x (lay 4000 51 σ m) = some (lay 4000 51 (upd σ (ps v 6) x) m) := put_ev hv (j := 6) (by decide)
theorem mwaits_ev (hv : v < 5) : f_X9_waitsOf fu (nI v) (lay 4000 51 σ m) = some (waitsS σ v, lay 4000 51 σ m) := by
  unfold f_X9_waitsOf waitsS plainS
  simp only [of_1 hv, of_5 hv, of_3 hv, doI_some, doV_some, seqM_eq, chk_t, Nat.reduceMul, Nat.reduceAdd, Int32.reduceToNatClampNeg, lm_0, lm_1, lm_2, lm_3, lm_4, lm_5, lm_6, lm_7, lm_8, lm_9, lm_10, lm_11, lm_12, lm_13, lm_14, lm_15]
  have key : ∀ p : Int32, f_X9_waitsOf_34 fu (nI v) (σ (ps v 1) + σ (ps v 5)) p (lay 4000 51 σ m) = some (waitsP (σ (ps v 0)) (σ (ps v 1) + σ (ps v 5) + p), lay 4000 51 σ m) := by
    intro p
    unfold f_X9_waitsOf_34 f_X9_waitsOf_48 waitsP hostP
    simp only [of_0 hv, doI_some, doV_some, seqM_eq, chk_t]
    by_cases h : 3 ≤ σ (ps v 1) + σ (ps v 5) + p
    · simp only [h, if_true, some_ite]
    · simp only [h, if_false, some_ite, show ¬ (2 : Int32) ≤ 1 by decide]
  by_cases h : σ 14 = nI v
  · simp only [h, if_true, key]
  · simp only [h, if_false, key]
theorem mtalks_ev (hv : v < 5) : f_X9_talksOf fu (nI v) (lay 4000 51 σ m) = some (talksS σ v, lay 4000 51 σ m) := by
  unfold f_X9_talksOf f_X9_talksOf_44 talksS talksP
  simp only [of_2 hv, of_0 hv, doI_some, doV_some, seqM_eq, chk_t, some_ite]
theorem mworth_ev (hv : v < 5) : f_X9_worthOf fu (nI v) (lay 4000 51 σ m) = some (worthS σ v, lay 4000 51 σ m) := by
  unfold f_X9_worthOf worthS worthP
  simp only [of_2 hv, of_0 hv, doI_some, doV_some, seqM_eq, chk_t, some_ite]
theorem myield_ev (hv : v < 5) : f_X9_doesYield fu (nI v) (lay 4000 51 σ m) = some (bz (yieldsP (σ (ps v 0))), lay 4000 51 σ m) := by
  unfold f_X9_doesYield
  simp only [of_0 hv, doI_some, doV_some, seqM_eq, chk_t, some_ite]
  by_cases h1 : σ (ps v 0) = 1
  · rw [if_pos h1, bz_f (fun z => z.1 h1)]
  · by_cases h3 : σ (ps v 0) = 3
    · rw [if_neg h1, if_pos h3, bz_f (fun z => z.2 h3)]
    · rw [if_neg h1, if_neg h3, bz_t ⟨h1, h3⟩]
theorem mdraw_ev : f_X9_draw fu (lay 4000 51 σ m) = some (ushr (drawZ (σ 0)) 8, lay 4000 51 (upd σ 0 (drawZ (σ 0))) m) := by
  unfold f_X9_draw drawZ
  simp only [doI_some, doV_some, seqM_eq, chk_t, Nat.reduceMul, Nat.reduceAdd, Int32.reduceToNatClampNeg, lm_0, lmu_0, pk_us]
theorem mbegins_ev (hv : v < 5) (ht : ¬ talksS σ v = 0) : f_X9_begins fu (nI v) (lay 4000 51 σ m) = some (lay 4000 51 (beginS σ v) m) := by
  have e1 : talksS (upd σ 0 (drawZ (σ 0))) v = talksS σ v := by unfold talksS; simp [upd, ps]
  have e2 : nz (talksS σ v) = true := decide_eq_true ht
  unfold f_X9_begins beginS
  simp only [mdraw_ev, mtalks_ev hv, e1, e2, doI_some, doV_some, seqM_eq, chk_t, put_4 hv, of_6 hv, put_6 hv, put_5 hv]
  simp [upd, ps]
theorem mspeak_L (hn : n ≤ 5) (h1 : σ 1 = nI n) : ∀ (f i : Nat), i ≤ n → n - i < f → f_X9_speaking_4 fu f (nI (speakN σ i)) (nI i) (lay 4000 51 σ m) = some (nI (speakN σ n), lay 4000 51 σ m) := by
  intro f
  induction f with
  | zero => intro i _ h; omega
  | succ f ih =>
    intro i hi hf
    rw [f_X9_speaking_4]
    simp only [Nat.reduceMul, Nat.reduceAdd, Int32.reduceToNatClampNeg, lm_1, h1]
    by_cases he : i = n
    · subst he
      rw [if_pos (nI_le (Nat.le_refl _) (by omega))]
    · have hlt : i < 5 := by omega
      rw [if_neg (nI_ge (by omega) (by omega))]
      simp only [of_4 hlt, doI_some, doV_some, seqM_eq, chk_t, f_X9_speaking_31, nI_1]
      by_cases h : σ (ps i 4) ≤ 0
      · have e : speakN σ (i + 1) = speakN σ i := by rw [speakN, if_neg (by rw [Int32.not_lt]; exact h)]; rfl
        rw [if_pos h, or_zero, ← e]
        exact ih (i + 1) (by omega) (by omega)
      · have e : speakN σ (i + 1) = speakN σ i + 2 ^ i := by rw [speakN, if_pos (by rw [Int32.not_le] at h; exact h)]
        rw [if_neg h, or_bit0 i hlt _ (speakN_lt i), ← e]
        exact ih (i + 1) (by omega) (by omega)
theorem mspeak_ev (hn : n ≤ 5) (h1 : σ 1 = nI n) (hf : 5 < fu) : f_X9_speaking fu (lay 4000 51 σ m) = some (nI (speakN σ n), lay 4000 51 σ m) := mspeak_L hn h1 fu 0 (Nat.zero_le _) (by omega)
theorem mready_L (hn : n ≤ 5) (h1 : σ 1 = nI n) : ∀ (f i : Nat), i ≤ n → n - i < f → f_X9_ready_4 fu f (nI (readyN σ i)) (nI i) (lay 4000 51 σ m) = some (nI (readyN σ n), lay 4000 51 σ m) := by
  intro f
  induction f with
  | zero => intro i _ h; omega
  | succ f ih =>
    intro i hi hf
    rw [f_X9_ready_4]
    simp only [Nat.reduceMul, Nat.reduceAdd, Int32.reduceToNatClampNeg, lm_1, h1]
    by_cases he : i = n
    · subst he
      rw [if_pos (nI_le (Nat.le_refl _) (by omega))]
    · have hlt : i < 5 := by omega
      rw [if_neg (nI_ge (by omega) (by omega))]
      simp only [of_0 hlt, mwaits_ev hlt, doI_some, doV_some, seqM_eq, chk_t, f_X9_ready_46, f_X9_ready_47, nI_1, or_zero, lm_6]
      by_cases h : readyS σ i
      · have e : readyN σ (i + 1) = readyN σ i + 2 ^ i := by rw [readyN, if_pos h]
        rw [if_neg h.1, if_neg h.2, or_bit0 i hlt _ (readyN_lt i), ← e]
        exact ih (i + 1) (by omega) (by omega)
      · have e : readyN σ (i + 1) = readyN σ i := by rw [readyN, if_neg h]; rfl
        by_cases h5 : σ (ps i 0) = 5
        · rw [if_pos h5, ← e]
          exact ih (i + 1) (by omega) (by omega)
        · rw [if_neg h5, if_pos (by
            rcases Decidable.em (σ 6 < waitsS σ i) with q | q
            · exact q
            · exact absurd ⟨h5, q⟩ h), ← e]
          exact ih (i + 1) (by omega) (by omega)
theorem mready_ev (hn : n ≤ 5) (h1 : σ 1 = nI n) (hf : 5 < fu) : f_X9_ready fu (lay 4000 51 σ m) = some (nI (readyN σ n), lay 4000 51 σ m) := mready_L hn h1 fu 0 (Nat.zero_le _) (by omega)
end MROW
