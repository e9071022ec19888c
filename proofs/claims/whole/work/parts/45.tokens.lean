/-! PURE: tokens of the tape -/
def scan (P : Nat → Prop) [DecidablePred P] (n : Nat) : Nat → Nat → Nat
  | 0, p => p
  | f + 1, p => if p < n ∧ P p then scan P n f (p + 1) else p
def endOf (P : Nat → Prop) [DecidablePred P] (n p : Nat) : Nat := scan P n (n - p) p
section TOK
variable {fu n p : Nat} {m M : Mem} {b : Nat → Nat} {x x1 x2 : Int32}
theorem endOf_on {P : Nat → Prop} [DecidablePred P] (h : p < n) (hp : P p) : endOf P n p = endOf P n (p + 1) := by
  unfold endOf
  rw [show n - p = (n - (p + 1)) + 1 by omega, scan, if_pos ⟨h, hp⟩]
theorem endOf_off {P : Nat → Prop} [DecidablePred P] (h : ¬ (p < n ∧ P p)) : endOf P n p = p := by
  unfold endOf
  cases e : n - p with
  | zero => rfl
  | succ q => rw [scan, if_neg h]
theorem endOf_ge {P : Nat → Prop} [DecidablePred P] : ∀ (d p : Nat), n - p ≤ d → p ≤ endOf P n p ∧ (p ≤ n → endOf P n p ≤ n) := by
  intro d
  induction d with
  | zero =>
    intro p h
    rw [endOf_off (by omega)]
    exact ⟨Nat.le_refl _, fun q => q⟩
  | succ d ih =>
    intro p h
    by_cases q : p < n ∧ P p
    · rw [endOf_on q.1 q.2]
      obtain ⟨a, c⟩ := ih (p + 1) (by omega)
      exact ⟨by omega, fun _ => c (by omega)⟩
    · rw [endOf_off q]
      exact ⟨Nat.le_refl _, fun q => q⟩
abbrev isSp (b : Nat → Nat) (k : Nat) : Prop := b k = 32
abbrev isLe (b : Nat → Nat) (k : Nat) : Prop := 97 ≤ b k ∧ b k ≤ 122
abbrev isFi (b : Nat → Nat) (k : Nat) : Prop := 48 ≤ b k ∧ b k ≤ 57
/-- the class's tape -/
def TpC (b : Nat → Nat) (n : Nat) (m : Mem) : Prop := n ≤ 96 ∧ m 280 = nI n ∧ ∀ k, k < n → m (900 + k) = nI (b k) ∧ b k < 256
theorem TpC.up (h : TpC b n m) {k : Nat} {y : Int32} (hk : k ≠ 280) (hk2 : k < 900 ∨ 996 ≤ k) : TpC b n (upd m k y) := ⟨h.1, by rw [pk_un (fun z => hk z.symm)]; exact h.2.1, fun j hj => by have := h.1; rw [pk_un (by omega)]; exact h.2.2 j hj⟩
theorem letter_ev {c : Nat} (hc : c < 256) : f_X1_isLetter fu (nI c) m = some (bz (97 ≤ c ∧ c ≤ 122), m) := by
  unfold f_X1_isLetter
  rw [within_ev, doI_some, isB_bz, chk_t]
  by_cases h : 97 ≤ c ∧ c ≤ 122
  · rw [bz_t h, bz_t (show inR (nI c) 97 122 from inR_of (a := 97) (b := 122) (by decide) h.1 h.2)]
  · rw [bz_f h, bz_f (fun q => by
      obtain ⟨k, k1, k2, e⟩ := inR_nI (a := 97) (b := 122) (by decide) (by decide) q
      rw [nI_eqP (by omega) (by omega)] at e
      omega)]
theorem digit_ev {c : Nat} (hc : c < 256) : f_X1_isDigit fu (nI c) m = some (bz (48 ≤ c ∧ c ≤ 57), m) := by
  unfold f_X1_isDigit
  rw [within_ev, doI_some, isB_bz, chk_t]
  by_cases h : 48 ≤ c ∧ c ≤ 57
  · rw [bz_t h, bz_t (show inR (nI c) 48 57 from inR_of (a := 48) (b := 57) (by decide) h.1 h.2)]
  · rw [bz_f h, bz_f (fun q => by
      obtain ⟨k, k1, k2, e⟩ := inR_nI (a := 48) (b := 57) (by decide) (by decide) q
      rw [nI_eqP (by omega) (by omega)] at e
      omega)]
theorem upd_same {k : Nat} {y : Int32} (h : m k = y) : upd m k y = m := by rw [← h]; exact upd_self
theorem step15 : ∀ (f p : Nat) (m : Mem), p ≤ n → n - p < f → TpC b n m → m 285 = nI p → f_X1_step_15 fu f x1 x2 m = f_X1_step_53 fu x1 x2 (upd m 285 (nI (endOf (isSp b) n p))) := by
  intro f
  induction f with
  | zero => intro p _ _ h; omega
  | succ f ih =>
    intro p m hp hf2 hT h5
    have hn := hT.1
    rw [f_X1_step_15, hT.2.1, h5]
    by_cases he : p = n
    · subst he
      rw [if_pos (nI_le (Nat.le_refl _) (by omega)), endOf_off (by omega), upd_same h5]
    · have hlt : p < n := by omega
      obtain ⟨t1, t2⟩ := hT.2.2 p hlt
      rw [if_neg (nI_ge hlt (by omega)), inb_nI (by omega) (by decide), chk_t, nI_clamp (by omega), t1]
      have e32 : (nI (b p) = 32) = (b p = 32) := nI_eqP (b := 32) (by omega) (by decide)
      by_cases h32 : b p = 32
      · rw [if_pos (show nI (b p) = 32 by rw [e32]; exact h32), seqM_eq, nI_1, ih (p + 1) _ (by omega) (by omega) (hT.up (by decide) (by decide)) pk_us, upd_upd, endOf_on hlt h32]
      · rw [if_neg (show ¬ nI (b p) = 32 by rw [e32]; exact h32), endOf_off (P := isSp b) (n := n) (p := p) (fun q => h32 q.2), upd_same h5]
theorem step61 : ∀ (f p : Nat) (m : Mem), p ≤ n → n - p < f → TpC b n m → m 286 = nI p → f_X1_step_61 fu f x1 x2 m = f_X1_step_100 fu x1 x2 (upd m 286 (nI (endOf (isLe b) n p))) := by
  intro f
  induction f with
  | zero => intro p _ _ h; omega
  | succ f ih =>
    intro p m hp hf2 hT h5
    have hn := hT.1
    rw [f_X1_step_61, hT.2.1, h5]
    by_cases he : p = n
    · subst he
      rw [if_pos (nI_le (Nat.le_refl _) (by omega)), endOf_off (by omega), upd_same h5]
    · have hlt : p < n := by omega
      obtain ⟨t1, t2⟩ := hT.2.2 p hlt
      rw [if_neg (nI_ge hlt (by omega)), inb_nI (by omega) (by decide), chk_t, nI_clamp (by omega), t1, letter_ev t2, doI_some]
      by_cases h32 : isLe b p
      · rw [bz_t h32, if_neg (by decide), h5, seqM_eq, nI_1, ih (p + 1) _ (by omega) (by omega) (hT.up (by decide) (by decide)) pk_us, upd_upd, endOf_on hlt h32]
      · rw [bz_f h32, if_pos rfl, endOf_off (fun q => h32 q.2), upd_same h5]
theorem step111 : ∀ (f p : Nat) (m : Mem), p ≤ n → n - p < f → TpC b n m → m 286 = nI p → f_X1_step_111 fu f x1 x2 m = f_X1_step_150 fu x1 x2 (upd m 286 (nI (endOf (isFi b) n p))) := by
  intro f
  induction f with
  | zero => intro p _ _ h; omega
  | succ f ih =>
    intro p m hp hf2 hT h5
    have hn := hT.1
    rw [f_X1_step_111, hT.2.1, h5]
    by_cases he : p = n
    · subst he
      rw [if_pos (nI_le (Nat.le_refl _) (by omega)), endOf_off (by omega), upd_same h5]
    · have hlt : p < n := by omega
      obtain ⟨t1, t2⟩ := hT.2.2 p hlt
      rw [if_neg (nI_ge hlt (by omega)), inb_nI (by omega) (by decide), chk_t, nI_clamp (by omega), t1, digit_ev t2, doI_some]
      by_cases h32 : isFi b p
      · rw [bz_t h32, if_neg (by decide), h5, seqM_eq, nI_1, ih (p + 1) _ (by omega) (by omega) (hT.up (by decide) (by decide)) pk_us, upd_upd, endOf_on hlt h32]
      · rw [bz_f h32, if_pos rfl, endOf_off (fun q => h32 q.2), upd_same h5]
/-- where the token that follows t begins, and where a word there ends -/
def tF (b : Nat → Nat) (n t : Nat) : Nat := endOf (isSp b) n t
def tE (b : Nat → Nat) (n t : Nat) : Nat := if endOf (isLe b) n (tF b n t) = tF b n t then endOf (isFi b) n (tF b n t) else endOf (isLe b) n (tF b n t)
def tT (b : Nat → Nat) (n t : Nat) : Nat := if tF b n t < tE b n t then tE b n t else tF b n t + 1
theorem tF_ok (h : p ≤ n) : p ≤ tF b n p ∧ tF b n p ≤ n := ⟨(endOf_ge (n - p) p (Nat.le_refl _)).1, (endOf_ge (n - p) p (Nat.le_refl _)).2 h⟩
theorem tE_ok (h : p ≤ n) : tF b n p ≤ tE b n p ∧ tE b n p ≤ n := by
  have a := (tF_ok (b := b) h).2
  have l := endOf_ge (P := isLe b) (n := n) (n - tF b n p) (tF b n p) (Nat.le_refl _)
  have f := endOf_ge (P := isFi b) (n := n) (n - tF b n p) (tF b n p) (Nat.le_refl _)
  unfold tE
  split
  · exact ⟨f.1, f.2 a⟩
  · exact ⟨l.1, l.2 a⟩
/-- one token of the class -/
theorem step_ev (hfu : 97 < fu) {t : Nat} (ht : t ≤ n + 1) (htn : t ≤ n) {w : Int32} (hw : w = 0 ∨ w = 1) (hT : TpC b n m) (h6 : m 286 = nI t) (h7 : m 287 = w) : ∃ M, f_X1_step fu m = some M ∧ M 285 = nI (tF b n t) ∧ M 286 = nI (tT b n t) ∧ M 287 = bz (tF b n t < tE b n t) ∧ M 288 = bz (tF b n t < tE b n t ∧ ¬ w = 0 ∧ tF b n t = t) ∧ Fr [(285, 289)] m M := by
  have hn := hT.1
  obtain ⟨f1, f2⟩ := tF_ok (b := b) htn
  obtain ⟨e1, e2⟩ := tE_ok (b := b) htn
  unfold f_X1_step
  rw [h6, h7, seqM_eq, seqM_eq, seqM_eq, step15 fu t (upd m 285 (nI t)) htn (by omega) (hT.up (by decide) (by decide)) pk_us, upd_upd]
  show ∃ M, f_X1_step_53 fu (nI t) w (upd m 285 (nI (tF b n t))) = some M ∧ _
  unfold f_X1_step_53
  have T1 : TpC b n (upd (upd m 285 (nI (tF b n t))) 286 (nI (tF b n t))) := (hT.up (by decide) (by decide)).up (by decide) (by decide)
  rw [pk_us, seqM_eq, step61 fu (tF b n t) _ f2 (by omega) T1 pk_us, upd_upd]
  have key : ∀ E, E = tE b n t → ∃ M, f_X1_step_150 fu (nI t) w (upd (upd m 285 (nI (tF b n t))) 286 (nI E)) = some M ∧ M 285 = nI (tF b n t) ∧ M 286 = nI (tT b n t) ∧ M 287 = bz (tF b n t < tE b n t) ∧ M 288 = bz (tF b n t < tE b n t ∧ ¬ w = 0 ∧ tF b n t = t) ∧ Fr [(285, 289)] m M := by
    intro E hE
    subst hE
    unfold f_X1_step_150 f_X1_step_167 f_X1_step_194 f_X1_step_195
    rw [pk_us, pk_un (show (285 : Nat) ≠ 286 by decide), pk_us]
    have eqt : (nI (tF b n t) = nI t) = (tF b n t = t) := nI_eqP (by omega) (by omega)
    simp only [isB_0, isB_1, chk_t, seqM_eq, pk_us, pk_un (show (285 : Nat) ≠ 287 by decide), pk_un (show (285 : Nat) ≠ 286 by decide), pk_un (show (287 : Nat) ≠ 288 by decide), pk_un (show (286 : Nat) ≠ 288 by decide), pk_un (show (286 : Nat) ≠ 287 by decide), if_true, show ¬ (1 : Int32) = 0 by decide, if_false, eqt, nI_1]
    have frm : ∀ y0 y1 y2 y3 : Int32, Fr [(285, 289)] m (upd (upd (upd (upd m 285 y0) 286 y1) 287 y2) 288 y3) := fun y0 y1 y2 y3 j hj => by
      have := hj (285, 289) List.mem_cons_self
      simp only at this
      rw [pk_un (by omega), pk_un (by omega), pk_un (by omega), pk_un (by omega)]
    have frm2 : ∀ y0 y1 y2 y3 y4 : Int32, Fr [(285, 289)] m (upd (upd (upd (upd (upd m 285 y0) 286 y1) 287 y2) 288 y3) 286 y4) := fun y0 y1 y2 y3 y4 j hj => by
      have := hj (285, 289) List.mem_cons_self
      simp only at this
      rw [pk_un (by omega)]
      exact frm y0 y1 y2 y3 j hj
    by_cases hw2 : tF b n t < tE b n t
    · have hT2 : tT b n t = tE b n t := by unfold tT; rw [if_pos hw2]
      rw [if_neg (nI_ge hw2 (by omega)), hT2]
      by_cases hw0 : w = 0
      · rw [if_pos hw0]
        refine ⟨_, rfl, by rw [pk_un (by decide), pk_un (by decide), pk_un (by decide), pk_us], by rw [pk_un (by decide), pk_un (by decide), pk_us], by rw [pk_un (by decide), pk_us, bz_t hw2], by rw [pk_us, bz_f (fun q => q.2.1 hw0)], frm _ _ _ _⟩
      · rw [if_neg hw0]
        by_cases hft : tF b n t = t
        · rw [if_pos hft]
          refine ⟨_, rfl, by rw [pk_un (by decide), pk_un (by decide), pk_un (by decide), pk_us], by rw [pk_un (by decide), pk_un (by decide), pk_us], by rw [pk_un (by decide), pk_us, bz_t hw2], by rw [pk_us, bz_t ⟨hw2, hw0, hft⟩], frm _ _ _ _⟩
        · rw [if_neg hft]
          refine ⟨_, rfl, by rw [pk_un (by decide), pk_un (by decide), pk_un (by decide), pk_us], by rw [pk_un (by decide), pk_un (by decide), pk_us], by rw [pk_un (by decide), pk_us, bz_t hw2], by rw [pk_us, bz_f (fun q => hft q.2.2)], frm _ _ _ _⟩
    · have hT2 : tT b n t = tF b n t + 1 := by unfold tT; rw [if_neg hw2]
      have heq : tE b n t = tF b n t := by omega
      rw [if_pos (nI_le (by omega) (by omega)), hT2]
      refine ⟨_, rfl, by rw [pk_un (by decide), pk_un (by decide), pk_un (by decide), pk_un (by decide), pk_us], by rw [pk_us, heq], by rw [pk_un (by decide), pk_un (by decide), pk_us, bz_f hw2], by rw [pk_un (by decide), pk_us, bz_f (fun q => hw2 q.1)], frm2 _ _ _ _ _⟩
  unfold f_X1_step_100
  rw [pk_us, pk_un (show (285 : Nat) ≠ 286 by decide), pk_us]
  have l := endOf_ge (P := isLe b) (n := n) (n - tF b n t) (tF b n t) (Nat.le_refl _)
  have l2 := l.2 f2
  have eqe : (nI (endOf (isLe b) n (tF b n t)) = nI (tF b n t)) = (endOf (isLe b) n (tF b n t) = tF b n t) := nI_eqP (by omega) (by omega)
  by_cases q : endOf (isLe b) n (tF b n t) = tF b n t
  · rw [if_pos (show nI (endOf (isLe b) n (tF b n t)) = nI (tF b n t) by rw [q]), step111 fu (tF b n t) _ f2 (by omega) ((hT.up (by decide) (by decide)).up (by decide) (by decide)) (by rw [pk_us, q]), upd_upd]
    exact key _ (by unfold tE; rw [if_pos q])
  · rw [if_neg (fun z => q (by rw [eqe] at z; exact z))]
    exact key _ (by unfold tE; rw [if_neg q])
end TOK
