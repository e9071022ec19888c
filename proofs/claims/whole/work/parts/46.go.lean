/-! PURE: tokens of the reference -/
def TpM (b : Nat → Nat) (n : Nat) (m : Mem) : Prop := n ≤ 96 ∧ m 3002 = nI n ∧ ∀ k, k < n → m (3200 + k) = nI (b k) ∧ b k < 256
def numV (b : Nat → Nat) (s : Nat) : Nat → Nat
  | 0 => 0
  | k + 1 => 10 * numV b s k + b (s + k) - 48
section GO
variable {fu n p : Nat} {m M : Mem} {b : Nat → Nat} {x x1 x2 : Int32}
theorem TpM.up (h : TpM b n m) {k : Nat} {y : Int32} (hk : k ≠ 3002) (hk2 : k < 3200 ∨ 3296 ≤ k) : TpM b n (upd m k y) := ⟨h.1, by rw [pk_un (fun z => hk z.symm)]; exact h.2.1, fun j hj => by have := h.1; rw [pk_un (by omega)]; exact h.2.2 j hj⟩
theorem mletter_ev (hT : TpM b n m) (hp : p < 2 ^ 31) : f_X9_isLetter fu (nI p) m = some (bz (p < n ∧ isLe b p), m) := by
  unfold f_X9_isLetter
  have hn := hT.1
  rw [hT.2.1]
  by_cases h : p < n
  · obtain ⟨t1, t2⟩ := hT.2.2 p h
    rw [if_neg (nI_ge h (by omega)), inb_nI (by omega) (by decide), chk_t, chk_t, nI_clamp hp, t1]
    by_cases a : b p < 97
    · rw [if_pos (by rw [show (97 : Int32) = nI 97 from rfl, nI_ltP (by omega) (by decide)]; exact a), bz_f (fun q => by omega)]
    · rw [if_neg (by rw [show (97 : Int32) = nI 97 from rfl, nI_ltP (by omega) (by decide)]; exact a)]
      by_cases c : 122 < b p
      · rw [if_pos (by rw [show (122 : Int32) = nI 122 from rfl, nI_ltP (by decide) (by omega)]; exact c), bz_f (fun q => by omega)]
      · rw [if_neg (by rw [show (122 : Int32) = nI 122 from rfl, nI_ltP (by decide) (by omega)]; exact c), bz_t ⟨h, by omega, by omega⟩]
  · rw [if_pos (nI_le (by omega) hp), bz_f (fun q => h q.1)]
theorem mfigure_ev (hT : TpM b n m) (hp : p < 2 ^ 31) : f_X9_isFigure fu (nI p) m = some (bz (p < n ∧ isFi b p), m) := by
  unfold f_X9_isFigure
  have hn := hT.1
  rw [hT.2.1]
  by_cases h : p < n
  · obtain ⟨t1, t2⟩ := hT.2.2 p h
    rw [if_neg (nI_ge h (by omega)), inb_nI (by omega) (by decide), chk_t, chk_t, nI_clamp hp, t1]
    by_cases a : b p < 48
    · rw [if_pos (by rw [show (48 : Int32) = nI 48 from rfl, nI_ltP (by omega) (by decide)]; exact a), bz_f (fun q => by omega)]
    · rw [if_neg (by rw [show (48 : Int32) = nI 48 from rfl, nI_ltP (by omega) (by decide)]; exact a)]
      by_cases c : 57 < b p
      · rw [if_pos (by rw [show (57 : Int32) = nI 57 from rfl, nI_ltP (by decide) (by omega)]; exact c), bz_f (fun q => by omega)]
      · rw [if_neg (by rw [show (57 : Int32) = nI 57 from rfl, nI_ltP (by decide) (by omega)]; exact c), bz_t ⟨h, by omega, by omega⟩]
  · rw [if_pos (nI_le (by omega) hp), bz_f (fun q => h q.1)]
theorem go0 : ∀ (f p : Nat) (m : Mem), p ≤ n → n - p < f → TpM b n m → m 3003 = nI p → f_X9_go_0 fu f m = f_X9_go_38 fu (upd m 3003 (nI (tF b n p))) := by
  unfold tF
  intro f
  induction f with
  | zero => intro p _ _ h; omega
  | succ f ih =>
    intro p m hp hf2 hT h5
    have hn := hT.1
    rw [f_X9_go_0, hT.2.1, h5]
    by_cases he : p = n
    · subst he
      rw [if_pos (nI_le (Nat.le_refl _) (by omega)), endOf_off (by omega), upd_same h5]
    · have hlt : p < n := by omega
      obtain ⟨t1, t2⟩ := hT.2.2 p hlt
      rw [if_neg (nI_ge hlt (by omega)), inb_nI (by omega) (by decide), chk_t, nI_clamp (by omega), t1]
      have e32 : (nI (b p) = 32) = (b p = 32) := nI_eqP (b := 32) (by omega) (by decide)
      by_cases h32 : b p = 32
      · rw [if_pos (show nI (b p) = 32 by rw [e32]; exact h32), seqM_eq, nI_1, ih (p + 1) _ (by omega) (by omega) (hT.up (by decide) (by decide)) pk_us, upd_upd, endOf_on hlt h32]
      · rw [if_neg (show ¬ nI (b p) = 32 by rw [e32]; exact h32), endOf_off (P := isSp b) (n := n) (p := p) (fun q => h32 q.2), upd_same h5]
theorem go93 : ∀ (f p : Nat) (m : Mem), p ≤ n → n - p < f → TpM b n m → m 3003 = nI p → f_X9_go_93 fu f x1 m = f_X9_go_127 fu (if x1 = 0 then 1 else 4) (upd m 3003 (nI (endOf (isLe b) n p))) := by
  intro f
  induction f with
  | zero => intro p _ _ h; omega
  | succ f ih =>
    intro p m hp hf2 hT h5
    have hn := hT.1
    rw [f_X9_go_93, h5, mletter_ev hT (by omega), doI_some]
    by_cases h : p < n ∧ isLe b p
    · rw [bz_t h, if_neg (by decide), h5, seqM_eq, nI_1, ih (p + 1) _ (by omega) (by omega) (hT.up (by decide) (by decide)) pk_us, upd_upd, endOf_on h.1 h.2]
    · rw [bz_f h, if_pos rfl, endOf_off h, upd_same h5]
      split <;> rfl
theorem numV_lt {s : Nat} (hb : ∀ k, k < n → b k < 256) : ∀ k, k ≤ 4 → s + k ≤ n → (∀ j, j < k → isFi b (s + j)) → numV b s k < 10 ^ k := by
  intro k
  induction k with
  | zero => intro _ _ _; exact Nat.one_pos
  | succ k ih =>
    intro h1 h2 h3
    have := ih (by omega) (by omega) (fun j hj => h3 j (by omega))
    have h4 := h3 k (by omega)
    rw [numV, Nat.pow_succ]
    omega
theorem go170 {s : Nat} : ∀ (f p : Nat) (m : Mem), s ≤ p → p ≤ n → n - p < f → TpM b n m → m 3003 = nI p → m 3004 = nI s → m 3006 = nI (numV b s (min 4 (p - s))) → f_X9_go_170 fu f x1 m = f_X9_go_261 fu (if x1 = 0 ∧ endOf (isFi b) n p - s ≤ 4 then 2 else 4) (upd (upd m 3006 (nI (numV b s (min 4 (endOf (isFi b) n p - s))))) 3003 (nI (endOf (isFi b) n p))) := by
  intro f
  induction f with
  | zero => intro p _ _ _ h; omega
  | succ f ih =>
    intro p m hsp hp hf2 hT h3 h4 h6
    have hn := hT.1
    rw [f_X9_go_170, h3, mfigure_ev hT (by omega), doI_some]
    have es : nI p - nI s = nI (p - s) := pk_sub hsp
    by_cases h : p < n ∧ isFi b p
    · rw [bz_t h, if_neg (by decide), h3, h4, es]
      unfold f_X9_go_222
      by_cases q : 4 ≤ p - s
      · rw [if_pos (by rw [show (4 : Int32) = nI 4 from rfl]; exact nI_le q (by omega)), seqM_eq, seqM_eq, pk_un (by decide), h3, nI_1, ih (p + 1) _ (by omega) (by omega) (by omega) ((hT.up (by decide) (by decide)).up (by decide) (by decide)) pk_us (by rw [pk_un (by decide), pk_un (by decide), h4]) (by rw [pk_un (by decide), pk_us, h6, show min 4 (p - s) = min 4 (p + 1 - s) by omega]), endOf_on h.1 h.2, upd_comm (show (3003 : Nat) ≠ 3006 by decide), upd_upd, upd_upd]
      · obtain ⟨t1, t2⟩ := hT.2.2 p h.1
        have ev : 10 * nI (numV b s (min 4 (p - s))) + nI (b p) - 48 = nI (numV b s (min 4 (p + 1 - s))) := by
          rw [show min 4 (p - s) = p - s by omega, show min 4 (p + 1 - s) = (p - s) + 1 by omega, numV, show s + (p - s) = p by omega, show (10 : Int32) = nI 10 from rfl, show (48 : Int32) = nI 48 from rfl, pk_mul, nI_add, pk_sub (by have := h.2.1; omega)]
        rw [if_neg (by rw [show (4 : Int32) = nI 4 from rfl]; exact nI_ge (by omega) (by omega)), inb_nI (by omega) (by decide), chk_t, nI_clamp (by omega), t1, h6, ev, seqM_eq, seqM_eq, pk_un (by decide), h3, nI_1, ih (p + 1) _ (by omega) (by omega) (by omega) ((hT.up (by decide) (by decide)).up (by decide) (by decide)) pk_us (by rw [pk_un (by decide), pk_un (by decide), h4]) (by rw [pk_un (by decide), pk_us]), endOf_on h.1 h.2, upd_comm (show (3003 : Nat) ≠ 3006 by decide), upd_upd, upd_upd]
    · rw [bz_f h, if_pos rfl, h3, h4, es, endOf_off h, ← h6, upd_self, upd_same h3]
      unfold f_X9_go_256
      by_cases q : x1 = 0
      · rw [if_pos q]
        by_cases r : p - s ≤ 4
        · rw [if_pos (by rw [show (4 : Int32) = nI 4 from rfl]; exact nI_le r (by decide)), if_pos ⟨q, r⟩]
        · rw [if_neg (by rw [show (4 : Int32) = nI 4 from rfl]; exact nI_ge (by omega) (by omega)), if_neg (fun z => r z.2)]
      · rw [if_neg q, if_neg (fun z => q z.1)]
/-- one token of the reference -/
theorem go_ev (hfu : 97 < fu) {t : Nat} (ht : t ≤ n) {e : Int32} (hT : TpM b n m) (h3 : m 3003 = nI t) (h7 : m 3007 = e) : ∃ M, f_X9_go fu m = some M ∧ M 3004 = nI (tF b n t) ∧ Fr [(3003, 3008)] m M ∧
    (tF b n t = n → M 3005 = 0 ∧ M 3003 = nI n ∧ M 3007 = e) ∧
    (tF b n t < n → isLe b (tF b n t) → M 3005 = (if nI (tF b n t) = e then 4 else 1) ∧ M 3006 = nI (b (tF b n t)) ∧ M 3003 = nI (endOf (isLe b) n (tF b n t)) ∧ M 3007 = nI (endOf (isLe b) n (tF b n t))) ∧
    (tF b n t < n → isFi b (tF b n t) → M 3005 = (if ¬ nI (tF b n t) = e ∧ endOf (isFi b) n (tF b n t) - tF b n t ≤ 4 then 2 else 4) ∧ M 3006 = nI (numV b (tF b n t) (min 4 (endOf (isFi b) n (tF b n t) - tF b n t))) ∧ M 3003 = nI (endOf (isFi b) n (tF b n t)) ∧ M 3007 = nI (endOf (isFi b) n (tF b n t))) ∧
    (tF b n t < n → ¬ isLe b (tF b n t) → ¬ isFi b (tF b n t) → M 3005 = 3 ∧ M 3006 = nI (b (tF b n t)) ∧ M 3003 = nI (tF b n t + 1) ∧ M 3007 = e) := by
  have hn := hT.1
  obtain ⟨f1, f2⟩ := tF_ok (b := b) ht
  unfold f_X9_go
  rw [go0 fu t m ht (by omega) hT h3]
  unfold f_X9_go_38
  rw [pk_us, seqM_eq, pk_us, pk_un (show (3007 : Nat) ≠ 3004 by decide), pk_un (show (3007 : Nat) ≠ 3003 by decide), h7]
  generalize hF : tF b n t = F at *
  have T1 : TpM b n (upd (upd m 3003 (nI F)) 3004 (nI F)) := (hT.up (by decide) (by decide)).up (by decide) (by decide)
  have key : ∀ y0 : Int32, (y0 = 0 ↔ ¬ nI F = e) → ∃ M, f_X9_go_62 fu y0 (upd (upd m 3003 (nI F)) 3004 (nI F)) = some M ∧ M 3004 = nI F ∧ Fr [(3003, 3008)] m M ∧
      (F = n → M 3005 = 0 ∧ M 3003 = nI n ∧ M 3007 = e) ∧
      (F < n → isLe b F → M 3005 = (if nI F = e then 4 else 1) ∧ M 3006 = nI (b F) ∧ M 3003 = nI (endOf (isLe b) n F) ∧ M 3007 = nI (endOf (isLe b) n F)) ∧
      (F < n → isFi b F → M 3005 = (if ¬ nI F = e ∧ endOf (isFi b) n F - F ≤ 4 then 2 else 4) ∧ M 3006 = nI (numV b F (min 4 (endOf (isFi b) n F - F))) ∧ M 3003 = nI (endOf (isFi b) n F) ∧ M 3007 = nI (endOf (isFi b) n F)) ∧
      (F < n → ¬ isLe b F → ¬ isFi b F → M 3005 = 3 ∧ M 3006 = nI (b F) ∧ M 3003 = nI (F + 1) ∧ M 3007 = e) := by
    intro y0 hy
    have frU : ∀ (L : Mem) (k : Nat) (y : Int32), 3003 ≤ k → k < 3008 → Fr [(3003, 3008)] m L → Fr [(3003, 3008)] m (upd L k y) := fun L k y a c hL j hj => by
      have := hj (3003, 3008) List.mem_cons_self
      simp only at this
      rw [pk_un (by omega)]
      exact hL j hj
    have fr0 : Fr [(3003, 3008)] m (upd (upd m 3003 (nI F)) 3004 (nI F)) := frU _ _ _ (by decide) (by decide) (frU _ _ _ (by decide) (by decide) fr_nil)
    unfold f_X9_go_62
    rw [pk_us, T1.2.1]
    by_cases hFn : F = n
    · subst hFn
      rw [if_pos rfl, seqM_eq]
      refine ⟨_, rfl, by rw [pk_un (by decide), pk_us], frU _ _ _ (by decide) (by decide) fr0, fun _ => ⟨pk_us, by rw [pk_un (by decide), pk_un (by decide), pk_us], by rw [pk_un (by decide), pk_un (by decide), pk_un (by decide), h7]⟩, fun z => absurd z (by omega), fun z => absurd z (by omega), fun z => absurd z (by omega)⟩
    · have hlt : F < n := by omega
      obtain ⟨t1, t2⟩ := T1.2.2 F hlt
      rw [if_neg (by rw [nI_eqP (by omega) (by omega)]; exact hFn), mletter_ev T1 (by omega), doI_some]
      by_cases hL : isLe b F
      · rw [bz_t ⟨hlt, hL⟩, if_neg (by decide), go93 fu F _ f2 (by omega) T1 (by rw [pk_un (by decide), pk_us])]
        unfold f_X9_go_127
        rw [seqM_eq, pk_un (show (3004 : Nat) ≠ 3005 by decide), pk_un (show (3004 : Nat) ≠ 3003 by decide), pk_us, inb_nI (by omega) (by decide), chk_t, nI_clamp (by omega), pk_un (show 3200 + F ≠ 3005 by omega), pk_un (show 3200 + F ≠ 3003 by omega), t1, seqM_eq, seqM_eq]
        refine ⟨_, rfl, ?_, frU _ _ _ (by decide) (by decide) (frU _ _ _ (by decide) (by decide) (frU _ _ _ (by decide) (by decide) (frU _ _ _ (by decide) (by decide) fr0))), fun z => absurd z hFn, fun _ _ => ⟨?_, ?_, ?_, ?_⟩, fun _ z => absurd z (by unfold isFi; unfold isLe at hL; omega), fun _ z => absurd hL z⟩
        · rw [pk_un (by decide), pk_un (by decide), pk_un (by decide), pk_un (by decide), pk_us]
        · rw [pk_un (by decide), pk_un (by decide), pk_us]
          by_cases q : nI F = e
          · rw [if_pos q, if_neg (fun z => (hy.mp z) q)]
          · rw [if_neg q, if_pos (hy.mpr q)]
        · rw [pk_un (by decide), pk_us]
        · rw [pk_un (by decide), pk_un (by decide), pk_un (by decide), pk_us]
        · rw [pk_us, pk_un (by decide), pk_un (by decide), pk_us]
      · rw [bz_f (fun z => hL z.2), if_pos rfl, pk_us, mfigure_ev T1 (by omega), doI_some]
        by_cases hD : isFi b F
        · rw [bz_t ⟨hlt, hD⟩, if_neg (by decide), seqM_eq, go170 (s := F) fu F _ (Nat.le_refl _) f2 (by omega) (T1.up (by decide) (by decide)) (by rw [pk_un (by decide), pk_un (by decide), pk_us]) (by rw [pk_un (by decide), pk_us]) (by rw [pk_us, Nat.sub_self]; rfl)]
          unfold f_X9_go_261
          rw [seqM_eq, seqM_eq]
          refine ⟨_, rfl, ?_, frU _ _ _ (by decide) (by decide) (frU _ _ _ (by decide) (by decide) (frU _ _ _ (by decide) (by decide) (frU _ _ _ (by decide) (by decide) (frU _ _ _ (by decide) (by decide) fr0)))), fun z => absurd z hFn, fun _ z => absurd z hL, fun _ _ => ⟨?_, ?_, ?_, ?_⟩, fun _ _ z => absurd hD z⟩
          · rw [pk_un (by decide), pk_un (by decide), pk_un (by decide), pk_un (by decide), pk_un (by decide), pk_us]
          · rw [pk_un (by decide), pk_us]
            by_cases q : nI F = e
            · rw [if_neg (fun z => (hy.mp z.1) q), if_neg (fun z => z.1 q)]
            · by_cases r : endOf (isFi b) n F - F ≤ 4
              · rw [if_pos ⟨hy.mpr q, r⟩, if_pos ⟨q, r⟩]
              · rw [if_neg (fun z => r z.2), if_neg (fun z => r z.2)]
          · rw [pk_un (by decide), pk_un (by decide), pk_un (by decide), pk_us]
          · rw [pk_un (by decide), pk_un (by decide), pk_us]
          · rw [pk_us, pk_un (by decide), pk_us]
        · rw [bz_f (fun z => hD z.2), if_pos rfl, seqM_eq, pk_un (show (3004 : Nat) ≠ 3005 by decide), pk_us, inb_nI (by omega) (by decide), chk_t, nI_clamp (by omega), pk_un (show 3200 + F ≠ 3005 by omega), t1, seqM_eq, seqM_eq]
          refine ⟨_, rfl, ?_, frU _ _ _ (by decide) (by decide) (frU _ _ _ (by decide) (by decide) (frU _ _ _ (by decide) (by decide) fr0)), fun z => absurd z hFn, fun _ z => absurd z hL, fun _ z => absurd z hD, fun _ _ _ => ⟨?_, ?_, ?_, ?_⟩⟩
          · rw [pk_un (by decide), pk_un (by decide), pk_un (by decide), pk_us]
          · rw [pk_un (by decide), pk_un (by decide), pk_us]
          · rw [pk_un (by decide), pk_us]
          · rw [pk_us, pk_un (by decide), pk_un (by decide), pk_un (by decide), pk_us, nI_1]
          · rw [pk_un (by decide), pk_un (by decide), pk_un (by decide), pk_un (by decide), pk_un (by decide), h7]
  by_cases q : nI F = e
  · rw [if_pos q]
    exact key 1 ⟨fun z => absurd z (by decide), fun z => absurd q z⟩
  · rw [if_neg q]
    exact key 0 ⟨fun _ => q, fun _ => rfl⟩
end GO
