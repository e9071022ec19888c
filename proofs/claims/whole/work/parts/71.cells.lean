/-! THE CELLS OF THE FIRST MEMORY -/
def plOf (r i : Nat) : Nat := if r = 0 then 0 else if r = 1 then 1 else if r = 2 then 2 else if r = 3 then (if i < 14 then 3 + 2 * i else 34) else if r = 4 then (if i < 14 then 4 + 2 * i else 35) else if r = 5 then 31 else if r = 6 then 32 else if r = 7 then 33 else if r = 8 then 36 else if r = 9 then 37 + 8 * i else if r = 10 then 38 + 8 * i else if r = 11 then (if i < 30 then 39 + 8 * (i / 10) + i % 10 else 73 + 4 * (i - 30)) else if r = 12 then 44 + 8 * i else if r = 13 then 61 else if r = 14 then 62 else if r = 15 then (if i < 4 then 63 + 2 * i else 74 + 4 * (i - 4)) else if r = 16 then (if i < 4 then 64 + 2 * i else 75 + 4 * (i - 4)) else if r = 17 then 71 else if r = 18 then 72 + 4 * i else if r = 19 then 92 else if r = 20 then 93 else if r = 21 then 94 + i else 75 + r
def XF (Y : CD) (z : Nat) (k v : Nat → Nat) : TX := (Y.1, fun r i => z + plOf r i, Y.2, k, v)
theorem off_inj : ∀ a ∈ ids, ∀ b ∈ ids, plOf a.1 a.2 = plOf b.1 b.2 → a = b := by decide +kernel
def NP (Y : CD) (z : Nat) (es : List va_E) (H : Heap) : Prop := ∀ (k : Nat) (e : va_E), es[k]? = some e → va_at Y.1 classes (z + k, e) H
section FIRST
variable {Y : CD} {z n a a' : Nat} {H : Heap} {es es1 : List va_E} {e : va_E} {kk vv : Nat → Nat}
theorem NP.app (n : Nat) (hn : es.length = n) (h : NP Y z (es ++ es1) H) : NP Y z es H ∧ NP Y (z + n) es1 H := by
  subst hn
  refine ⟨fun k e he => h k e (by rw [List.getElem?_append_left (List.getElem?_eq_some_iff.mp he).1]; exact he), fun k e he => ?_⟩
  have := h (es.length + k) e (by rw [List.getElem?_append_right (Nat.le_add_right _ _), Nat.add_sub_cancel_left]; exact he)
  rw [← Nat.add_assoc] at this
  exact this
theorem NP.cons (h : NP Y z (e :: es) H) : va_at Y.1 classes (z, e) H ∧ NP Y (z + 1) es H := by
  refine ⟨h 0 e rfl, fun k e' he => ?_⟩
  have := h (k + 1) e' he
  rw [show z + (k + 1) = z + 1 + k by omega] at this
  exact this
theorem arr_c {cI : ClassId} {N : Nat} {f g : Nat → Value} (h : ∀ j, j < N → f j = g j) : arrV cI N f = arrV cI N g := by
  unfold arrV
  congr 2
  funext j
  exact h j.val j.isLt
theorem cf {c b n : Nat} {f : Nat → Int32} (h : va_at Y.1 classes (a, .inl (Y.2 c, n, .inl f)) H) (ha : a = a') (hf : ∀ j, j < n → f j = m0 (b + j)) : va_at Y.1 classes (a', aI (XF Y z kk vv) m0 c b n) H := by
  subst ha
  have h : H[a]? = some (vp_cell (Y.2 c) (n, .inl f)) := h
  show H[a]? = some (vp_cell (Y.2 c) (n, .inl (fun j => if j < n then m0 (b + j) else 0)))
  rw [h, vp_cell_i, vp_cell_i, arr_c (g := fun j => .int (if j < n then m0 (b + j) else 0)) (fun j hj => by rw [if_pos hj, hf j hj])]
theorem cz {c b n : Nat} (h : va_at Y.1 classes (a, .inl (Y.2 c, n, .inl (fun _ => 0))) H) (ha : a = a') (hf : ∀ j, j < n → m0 (b + j) = 0) : va_at Y.1 classes (a', aI (XF Y z kk vv) m0 c b n) H := cf h ha (fun j hj => (hf j hj).symm)
theorem cl5 (h : va_at Y.1 classes (a, .inl (Y.2 1, 5, .inr (.inl (fun _ => 0)))) H) (ha : a = a') : va_at Y.1 classes (a', aL (XF Y z kk vv) m0 3160 5) H := by
  subst ha
  have h : H[a]? = some (vp_cell (Y.2 1) (5, .inr (.inl (fun _ => 0)))) := h
  show H[a]? = some (vp_cell (Y.2 1) (5, .inr (.inl (fun j => if j < 5 then comb (m0 (3160 + 2 * j)) (m0 (3160 + 2 * j + 1)) else 0))))
  rw [h, vp_cell_l, vp_cell_l, arr_c (g := fun j => .long (if j < 5 then comb (m0 (3160 + 2 * j)) (m0 (3160 + 2 * j + 1)) else 0)) (fun j hj => by rw [if_pos hj, m0z (k := 3160 + 2 * j) (by omega), m0z (k := 3160 + 2 * j + 1) (by omega), show comb 0 0 = 0 by decide])]
theorem cr {t n r : Nat} {g k : Nat → Nat} (h : va_at Y.1 classes (a, q_A Y t n n g) H) (ha : a = a') (hg : ∀ j, j < n → g j = z + plOf r (k j)) : va_at Y.1 classes (a', aR (XF Y z kk vv) t n r k) H := by
  subst ha
  have h : H[a]? = some (vp_cell (Y.2 t) (n, .inr (.inr (.inr (.inr (fun j => if j < n then some (g j) else none)))))) := h
  show H[a]? = some (vp_cell (Y.2 t) (n, .inr (.inr (.inr (.inr (fun j => some (z + plOf r (k j))))))))
  rw [h, vp_cell_q, vp_cell_q, arr_c (g := fun j => va_rf (some (z + plOf r (k j)))) (fun j hj => by rw [if_pos hj, hg j hj])]
theorem co0 {w : Nat} (h : va_at Y.1 classes (a, oX0 w) H) (ha : a = a') : va_at Y.1 classes (a', .inr (0, [.int 0, .int 0])) H := ha ▸ h
theorem co7 {w : Nat} (h : va_at Y.1 classes (a, oX7 w) H) (ha : a = a') : va_at Y.1 classes (a', .inr (7, [.int 0, .int 0, .int 0, .int 0, .int 0, .int 0, .int 0])) H := ha ▸ h
theorem co5 {w r1 : Nat} (h : va_at Y.1 classes (a, oX5 w) H) (ha : a = a') (h1 : w = r1) : va_at Y.1 classes (a', .inr (5, [.int 0, .int 0, .int 0, .ref r1])) H := by
  subst ha; subst h1; exact h
theorem co2 {w r1 : Nat} (h : va_at Y.1 classes (a, oX2 w) H) (ha : a = a') (h1 : w = r1) : va_at Y.1 classes (a', .inr (2, [.int (-1), .int 0, .ref r1])) H := by
  subst ha; subst h1; exact h
theorem co3 {w r1 r2 : Nat} (h : va_at Y.1 classes (a, oX3 w) H) (ha : a = a') (h1 : w = r1) (h2 : w + 1 = r2) : va_at Y.1 classes (a', .inr (3, [.int 0, .ref r1, .ref r2, .int 0])) H := by
  subst ha; subst h1; subst h2; exact h
theorem co4 {w q r1 r2 r3 : Nat} (h : va_at Y.1 classes (a, oX4 w q) H) (ha : a = a') (h1 : w = r1) (h2 : w + 6 = r2) (h3 : q = r3) : va_at Y.1 classes (a', .inr (4, [.ref r1, .int 0, .int 1000, .int 110, .int 0, .int 0, .int 0, .int 0, .int 0, .int 0, .int 0, .int 0, .int 0, .int (-1), .int 0, .int 1, .int 0, .ref r2, .ref r3])) H := by
  subst ha; subst h1; subst h2; subst h3; exact h
theorem co6 {w r1 r2 : Nat} (h : va_at Y.1 classes (a, oX6 w) H) (ha : a = a') (h1 : w = r1) (h2 : w + 29 = r2) : va_at Y.1 classes (a', .inr (6, [.ref r1, .ref r2])) H := by
  subst ha; subst h1; subst h2; exact h
theorem co1 {w r1 r2 r3 : Nat} (h : va_at Y.1 classes (a, oX1 w) H) (ha : a = a') (h1 : w = r1) (h2 : w + 1 = r2) (h3 : w + 3 = r3) : va_at Y.1 classes (a', .inr (1, [.ref r1, .int 0, .ref r2, .ref r3, .int 0, .int 0, .int 0, .int 0, .int 0, .int 0, .int 0, .int 0])) H := by
  subst ha; subst h1; subst h2; subst h3; exact h
theorem T_X6_at {b : Nat} : ∀ n, NP Y a (T_X6_15 Y b n) H → ∀ j, j < n → va_at Y.1 classes (a + 2 * j, oX5 (b + 2 * j)) H ∧ va_at Y.1 classes (a + 2 * j + 1, .inl (Y.2 0, 96, .inl (fun _ => 0))) H := by
  intro n
  induction n with
  | zero => intro _ j hj; omega
  | succ n ih =>
    intro h j hj
    obtain ⟨h1, h2⟩ := NP.app (2 * n) (len_T_X6_15 n) h
    by_cases e : j = n
    · subst e
      obtain ⟨h3, h4⟩ := NP.cons h2
      exact ⟨h3, (NP.cons h4).1⟩
    · exact ih h1 j (by omega)
theorem T_X8a_at {b : Nat} : ∀ n, NP Y a (T_X8_85 Y b n) H → ∀ j, j < n → va_at Y.1 classes (a + 2 * j, oX2 (b + 2 * j)) H ∧ va_at Y.1 classes (a + 2 * j + 1, .inl (Y.2 0, 24, .inl (fun _ => 0))) H := by
  intro n
  induction n with
  | zero => intro _ j hj; omega
  | succ n ih =>
    intro h j hj
    obtain ⟨h1, h2⟩ := NP.app (2 * n) (len_T_X8_85 n) h
    by_cases e : j = n
    · subst e
      obtain ⟨h3, h4⟩ := NP.cons h2
      exact ⟨h3, (NP.cons h4).1⟩
    · exact ih h1 j (by omega)
theorem T_X8b_at {b : Nat} : ∀ n, NP Y a (T_X8_119 Y b n) H → ∀ j, j < n → va_at Y.1 classes (a + 4 * j, oX3 (b + 4 * j)) H ∧ va_at Y.1 classes (a + 4 * j + 1, oX7 (b + 4 * j + 1)) H ∧ va_at Y.1 classes (a + 4 * j + 1 + 1, oX2 (b + 4 * j + 2)) H ∧ va_at Y.1 classes (a + 4 * j + 1 + 1 + 1, .inl (Y.2 0, 24, .inl (fun _ => 0))) H := by
  intro n
  induction n with
  | zero => intro _ j hj; omega
  | succ n ih =>
    intro h j hj
    obtain ⟨h1, h2⟩ := NP.app (4 * n) (len_T_X8_119 n) h
    by_cases e : j = n
    · subst e
      obtain ⟨h3, h4⟩ := NP.cons h2
      obtain ⟨h5, h6⟩ := NP.cons (show NP Y _ (oX7 (b + 4 * j + 1) :: (oX2 (b + 4 * j + 2) :: mX2 Y (b + 4 * j + 2))) H from h4)
      obtain ⟨h7, h8⟩ := NP.cons h6
      exact ⟨h3, h5, h7, (NP.cons h8).1⟩
    · exact ih h1 j (by omega)
theorem P_X4 {w q : Nat} (h : NP Y a (oX4 w q :: mX4 Y w) H) : va_at Y.1 classes (a, oX4 w q) H ∧ va_at Y.1 classes (a + 1, q_A Y 4 5 5 (fun j => w + 1 + 1 * j)) H ∧ (∀ j, j < 5 → va_at Y.1 classes (a + 2 + j, oX7 0) H) ∧ va_at Y.1 classes (a + 7, .inl (Y.2 0, 3, .inl (upd (upd (upd (fun _ => 0) 0 (-1)) 1 (-1)) 2 (-1)))) H := by
  obtain ⟨h0, h1⟩ := NP.cons h
  have h1 : NP Y (a + 1) (q_A Y 4 5 5 (fun j => w + 1 + 1 * j) :: [oX7 0, oX7 0, oX7 0, oX7 0, oX7 0, .inl (Y.2 0, 3, .inl (upd (upd (upd (fun _ => 0) 0 (-1)) 1 (-1)) 2 (-1)))]) H := h1
  obtain ⟨h2, h3⟩ := NP.cons h1
  refine ⟨h0, h2, fun j hj => ?_, ?_⟩
  · have : j = 0 ∨ j = 1 ∨ j = 2 ∨ j = 3 ∨ j = 4 := by omega
    rcases this with rfl | rfl | rfl | rfl | rfl
    · exact h3 0 _ rfl
    · exact h3 1 _ rfl
    · exact h3 2 _ rfl
    · exact h3 3 _ rfl
    · exact h3 4 _ rfl
  · exact h3 5 _ rfl
end FIRST
theorem now_0 (j : Nat) : upd (upd (upd (upd (fun _ => 0) 0 1) 3 110) 5 1000) 14 (-1) j = m0 (4000 + 1500 * 0 + j) := by
  by_cases h : j < 15
  · have d : ∀ j, j < 15 → upd (upd (upd (upd (fun _ => 0) 0 1) 3 110) 5 1000) 14 (-1) j = m0 (4000 + 1500 * 0 + j) := by decide
    exact d j h
  · rw [m0z (by omega), pk_un (by omega), pk_un (by omega), pk_un (by omega), pk_un (by omega)]
