/-! PURE: text -/
section OPTEXT
variable {fu n N a z key t : Nat} {σ τ : Row} {m m' M mc mm : Mem} {X : TxS} {c : Row} {r q : Int32}
theorem inv_tape2 (hI : Inv m) (hf : Fr (sTA ++ scr) m m') (h : TAPE m') : Inv m' := by
  obtain ⟨n, N, σ, τ, X, h1, h2, h3, h4, h5, h6, h7, h8, h9⟩ := hI
  exact ⟨n, N, σ, τ, X, h1.on (hf.on (by decide)), h2, h3.on (hf.on (by decide)), h4.on h3.2.1 h3.1 (hf.on (by decide)), h, h6.on (hf.on (by decide)), h7.on (hf.on (by decide)), h8.on (hf.on (by decide)), h9.on (hf.on (by decide))⟩
theorem cpCode (hm : ∀ i, i < z → m (2444 + i) = c i) (hz : z ≤ 96) (hN : N < 14) : (∀ i, i < z → cpM m (1100 + 96 * 14) (1100 + 96 * N) 0 0 96 (1100 + 96 * N + i) = c i) ∧ ∀ k, (k < 1100 + 96 * N ∨ 1196 + 96 * N ≤ k) → cpM m (1100 + 96 * 14) (1100 + 96 * N) 0 0 96 k = m k := by
  have e0 : (0 : Int32).toNatClampNeg = 0 := rfl
  have e96 : (96 : Int32).toNatClampNeg = 96 := rfl
  refine ⟨fun i hi => ?_, fun k hk => ?_⟩
  · unfold cpM
    rw [e0, e96, if_pos (by omega), ← hm i hi]
    congr 1
    omega
  · unfold cpM
    rw [e0, e96, if_neg (by omega)]
theorem m117_L (hz : z ≤ 96) (hN : N < 14) : ∀ (f i : Nat) (m : Mem), i ≤ z → z - i < f → m 3009 = nI z → m 4015 = nI N → (∀ k, k < z → m (3400 + k) = encM (c k)) → (∀ k, k < i → m (4079 + 96 * N + k) = encM (c k)) → ∃ M, f_X9_text_117 fu f (nI N) (nI i) m = some (nI N, M) ∧ M 4015 = nI (N + 1) ∧ (∀ k, k < z → M (4079 + 96 * N + k) = encM (c k)) ∧ ∀ k, ¬ (k = 4015 ∨ (4079 + 96 * N ≤ k ∧ k < 4175 + 96 * N)) → M k = m k := by
  intro f
  induction f with
  | zero => intro i _ _ h; omega
  | succ f ih =>
    intro i m hi hf h9 h15 h34 hd
    rw [f_X9_text_117, h9]
    by_cases q : i = z
    · subst q
      rw [if_pos (nI_le (Nat.le_refl _) (by omega)), show 4000 + 1500 * 0 + (15 : Int32).toNatClampNeg = 4015 by decide, seqM_eq, h15, nI_1]
      exact ⟨_, rfl, pk_us, fun k hk => by rw [pk_un (by omega)]; exact hd k hk, fun k hk => pk_un (by omega)⟩
    · have hlt : i < z := by omega
      have eix : (79 + 96 * nI N) + nI i = nI (79 + 96 * N + i) := by
        rw [show (79 : Int32) = nI 79 from rfl, show (96 : Int32) = nI 96 from rfl, pk_mul, nI_add, nI_add]
      rw [if_neg (nI_ge hlt (by omega)), inb_nI (show i < 96 by omega) (by decide), chk_t, eix, inb_nI (show 79 + 96 * N + i < 1423 by omega) (by decide), chk_t, nI_clamp (by omega), nI_clamp (by omega), seqM_eq, seqM_eq, nI_1, h34 i hlt, show 4000 + 1500 * 0 + (79 + 96 * N + i) = 4079 + 96 * N + i by omega]
      obtain ⟨M, a1, a2, a3, a4⟩ := ih (i + 1) (upd m (4079 + 96 * N + i) (encM (c i))) (by omega) (by omega) (by rw [pk_un (by omega)]; exact h9) (by rw [pk_un (by omega)]; exact h15) (fun k hk => by rw [pk_un (by omega)]; exact h34 k hk) (fun k hk => by
        by_cases e : k = i
        · subst e; rw [pk_us]
        · rw [pk_un (by omega)]; exact hd k (by omega))
      exact ⟨M, a1, a2, a3, fun k hk => by rw [a4 k hk, pk_un (by omega)]⟩
theorem lastO_c {tk tk' : Nat → Nat} {key : Nat} : ∀ N, (∀ t, t < N → tk' t = tk t) → lastO tk' key N = lastO tk key N := by
  intro N
  induction N with
  | zero => intro _; rfl
  | succ N ih => intro h; rw [lastO, lastO, h N (by omega), ih (fun t ht => h t (by omega))]
def addX (X : TxS) (N key a z : Nat) (c : Row) : TxS := (fun t => if t = N then key else X.1 t, fun t => if t = N then a else X.2.1 t, fun t => if t = N then z else X.2.2.1 t, fun t => if t = N then c else X.2.2.2 t)
theorem addX_N : (addX X N key a z c).1 N = key ∧ (addX X N key a z c).2.1 N = a ∧ (addX X N key a z c).2.2.1 N = z ∧ (addX X N key a z c).2.2.2 N = c := ⟨if_pos rfl, if_pos rfl, if_pos rfl, if_pos rfl⟩
theorem addX_o (h : t ≠ N) : (addX X N key a z c).1 t = X.1 t ∧ (addX X N key a z c).2.1 t = X.2.1 t ∧ (addX X N key a z c).2.2.1 t = X.2.2.1 t ∧ (addX X N key a z c).2.2.2 t = X.2.2.2 t := ⟨if_neg h, if_neg h, if_neg h, if_neg h⟩
theorem inv_text (hI : RW n σ τ m ∧ CNT X N σ ∧ TXI X N m ∧ IMG X N m ∧ TAPE m ∧ SHT m ∧ SLT m ∧ WTG m ∧ KST m) (hN : N < 14) (hkey : key < 3) (ha : a ≤ 96) (hr : RPN key c z)
    (hf : ∀ k, (∀ p ∈ scr, k < p.1 ∨ p.2 ≤ k) → ¬ (k = 15 ∨ k = 51 + key ∨ k = 280 ∨ k = 3002 ∨ k = 4015 ∨ (330 + 3 * N ≤ k ∧ k < 333 + 3 * N) ∨ (1100 + 96 * N ≤ k ∧ k < 1196 + 96 * N) ∨ k = 4051 + 2 * N ∨ k = 4052 + 2 * N ∨ (4079 + 96 * N ≤ k ∧ k < 4175 + 96 * N)) → M k = m k)
    (e15 : M 15 = nI (N + 1)) (e51 : M (51 + key) = nI N) (e280 : M 280 = 0) (e3002 : M 3002 = 0) (e4015 : M 4015 = nI (N + 1)) (t0 : M (tf N 0) = nI key) (t1 : M (tf N 1) = nI a) (t2 : M (tf N 2) = nI z) (t3 : ∀ i, i < z → M (1100 + 96 * N + i) = c i) (u0 : M (4051 + 2 * N) = nI (1000 * key + z)) (u1 : M (4052 + 2 * N) = nI a) (u2 : ∀ i, i < z → M (4079 + 96 * N + i) = encM (c i)) : Inv M := by
  obtain ⟨h1, h2, ⟨h3, hv, hC, hM⟩, h4, h5, h6, h7, h8, h9⟩ := hI
  have hn5 := h1.2.2.2.1.2.1
  have hz := hr.1
  have fg : ∀ S : List (Nat × Nat), disj (scr ++ [(0, 54), (280, 281), (330, 372), (1100, 2444), (3002, 3003), (4000, 5423)]) S = true → ∀ k, onS S k → M k = m k := fun S hd k hk => by
    have fr : Fr (scr ++ [(0, 54), (280, 281), (330, 372), (1100, 2444), (3002, 3003), (4000, 5423)]) m M := fun k hk => by
      have p1 := hk (0, 54) (List.mem_append_right _ (by decide))
      have p2 := hk (280, 281) (List.mem_append_right _ (by decide))
      have p3 := hk (330, 372) (List.mem_append_right _ (by decide))
      have p4 := hk (1100, 2444) (List.mem_append_right _ (by decide))
      have p5 := hk (3002, 3003) (List.mem_append_right _ (by decide))
      have p6 := hk (4000, 5423) (List.mem_append_right _ (by decide))
      simp only at p1 p2 p3 p4 p5 p6
      exact hf k (fun p hp => hk p (List.mem_append_left _ hp)) (by omega)
    exact fr.on hd k hk
  have off : ∀ k, (k < 70 ∨ (330 ≤ k ∧ k < 372) ∨ (1100 ≤ k ∧ k < 2444) ∨ (4000 ≤ k ∧ k < 5423)) → ∀ p ∈ scr, k < p.1 ∨ p.2 ≤ k := fun k hk p hp => by
    unfold scr at hp
    simp only [List.mem_cons, List.not_mem_nil, or_false] at hp
    rcases hp with rfl | rfl | rfl | rfl | rfl | rfl | rfl | rfl | rfl | rfl | rfl | rfl | rfl | rfl <;> simp only <;> omega
  have LvC : Lv n σ (upd σ (51 + key) (nI N)) := fun q hq => pk_un (by omega)
  refine ⟨n, N + 1, upd (upd σ (51 + key) (nI N)) 15 (nI (N + 1)), upd τ 15 (nI (N + 1)), addX X N key a z c, ⟨fun k hk => ?_, fun k hk => ?_, fun q hq => ?_, (LvC.rok h1.2.2.2.1).upd_low (by decide) (by decide) (by decide) (by decide) (by decide) (by decide) (by decide), (LvC.wok h1.2.2.2.2).low (by decide)⟩, ⟨pk_us, fun k hk => ?_⟩, ⟨by omega, fun t ht => ?_, fun t ht => ?_, fun t ht => ?_⟩, ?_, ⟨0, by decide, e280, e3002, fun k hk => by omega⟩, h6.on (fg _ (by decide)), h7.on (fg _ (by decide)), h8.on (fg _ (by decide)), h9.on (fg _ (by decide))⟩
  · by_cases q15 : k = 15
    · subst q15; rw [pk_us]; exact e15
    · rw [pk_un q15]
      by_cases q51 : k = 51 + key
      · subst q51; rw [pk_us]; exact e51
      · rw [pk_un q51, hf k (off k (by omega)) (by omega)]; exact h1.1 k hk
  · by_cases q15 : k = 15
    · subst q15; rw [pk_us]; exact e4015
    · rw [pk_un q15, hf _ (off _ (by omega)) (by omega)]; exact h1.2.1 k hk
  · by_cases q15 : q = 15
    · subst q15; rw [pk_us, pk_us]
    · rw [pk_un q15, pk_un q15, pk_un (by omega)]; exact h1.2.2.1 q hq
  · rw [pk_un (by omega), lastO, addX_N.1]
    by_cases e : k = key
    · subst e; rw [pk_us, if_pos rfl]; rfl
    · rw [pk_un (by omega), if_neg (fun z => e z.symm), h2.2 k hk, lastO_c N (fun t ht => (addX_o (by omega)).1)]
  · by_cases e : t = N
    · subst e
      obtain ⟨x1, x2, x3, x4⟩ := @addX_N t a z key X c
      rw [x1, x2, x3, x4]
      exact ⟨hkey, ha, hr⟩
    · obtain ⟨x1, x2, x3, x4⟩ := @addX_o N a z key t X c e
      rw [x1, x2, x3, x4]
      exact hv t (by omega)
  · by_cases e : t = N
    · subst e
      obtain ⟨x1, x2, x3, x4⟩ := @addX_N t a z key X c
      rw [x1, x2, x3, x4]
      exact ⟨t0, t1, t2, t3⟩
    · obtain ⟨x1, x2, x3, x4⟩ := @addX_o N a z key t X c e
      rw [x1, x2, x3, x4]
      obtain ⟨c1, c2, c3, c4⟩ := hC t (by omega)
      have hzt := (hv t (by omega)).2.2.1
      have o : ∀ j, j < 3 → M (tf t j) = m (tf t j) := fun j hj => hf _ (off _ (by unfold tf; omega)) (by unfold tf; omega)
      exact ⟨by rw [o 0 (by decide)]; exact c1, by rw [o 1 (by decide)]; exact c2, by rw [o 2 (by decide)]; exact c3, fun i hi => by rw [hf _ (off _ (by omega)) (by omega)]; exact c4 i hi⟩
  · by_cases e : t = N
    · subst e
      obtain ⟨x1, x2, x3, x4⟩ := @addX_N t a z key X c
      rw [x1, x2, x3, x4]
      exact ⟨u0, u1, u2⟩
    · obtain ⟨x1, x2, x3, x4⟩ := @addX_o N a z key t X c e
      rw [x1, x2, x3, x4]
      obtain ⟨c1, c2, c3⟩ := hM t (by omega)
      have hzt := (hv t (by omega)).2.2.1
      exact ⟨by rw [hf _ (off _ (by omega)) (by omega)]; exact c1, by rw [hf _ (off _ (by omega)) (by omega)]; exact c2, fun i hi => by rw [hf _ (off _ (by omega)) (by omega)]; exact c3 i hi⟩
  · have h4' := h4.on hv h3 (fg _ (by decide))
    obtain ⟨i0, i1⟩ := h4'
    refine ⟨i0, ?_⟩
    rcases i1 with i1 | ⟨i1, n2, N2, ι, κ, b1, b2, b3, b4, b5, b6, ⟨b7, b8⟩, b9⟩
    · exact Or.inl i1
    · refine Or.inr ⟨i1, n2, N2, ι, κ, b1, b2, b3, b4, b5, by omega, ⟨b7, fun k hk => ?_⟩, fun t ht => ?_⟩
      · rw [b8 k hk, lastO_c N2 (fun t ht => (addX_o (by omega)).1)]
      · obtain ⟨x1, x2, x3, x4⟩ := @addX_o N a z key t X c (by omega)
        rw [x1, x2, x3, x4]
        exact b9 t ht
theorem op_text (hfu : 98 < fu) (hI : Inv m) : Op (f_X8_text fu) (f_X9_text fu) m := by
  have hI0 := hI
  obtain ⟨n, N, σ, τ, X, hA⟩ := hI
  have hA0 := hA
  obtain ⟨h1, h2, ⟨h3, hv, hC, hM⟩, h4, ⟨l, hl, t1, t2, t3⟩, h6, h7, h8, h9⟩ := hA
  obtain ⟨b, hb⟩ : ∃ b : Nat → Nat, b = fun k => (m (900 + k)).toNatClampNeg := ⟨_, rfl⟩
  have hby : ∀ k, k < l → m (900 + k) = nI (b k) ∧ b k < 256 := fun k hk => by
    obtain ⟨-, y, y1, y2⟩ := t3 k hk
    have : b k = y := by rw [hb]; show (m (900 + k)).toNatClampNeg = y; rw [y2, nI_clamp (by omega)]
    rw [this]
    exact ⟨y2, y1⟩
  have TC : TpC b l m := ⟨hl, t1, hby⟩
  have TM : ∀ M : Mem, M 3002 = m 3002 → (∀ k, k < 96 → M (3200 + k) = m (3200 + k)) → TpM b l M := fun M e1 e2 => ⟨hl, by rw [e1]; exact t2, fun k hk => by rw [e2 k (by omega), (t3 k hk).1]; exact hby k hk⟩
  have KM : ∀ M : Mem, (∀ k, 3300 ≤ k → k < 3324 → M k = m k) → KcM M := fun M e => KST.kc (h9.on (fun k hk => by
    obtain ⟨q, hq, q1, q2⟩ := hk
    unfold sKS at hq
    simp only [List.mem_cons, List.not_mem_nil, or_false] at hq
    rcases hq with rfl | rfl
    · simp only at q1 q2; exact e k (by omega) (by omega)
    · simp only at q1 q2; exact e k (by omega) (by omega)))
  obtain ⟨r, q0, key0, mc, mm0, -, e1, -, fc, -, o0⟩ := read_ev hfu TC (TM m rfl (fun _ _ => rfl)) (KM m (fun _ _ _ => rfl))
  have c15 : mc (sf 0 15) = nI N := (fc.rg 15 16 (by decide) (by decide) (by decide)).trans ((h1.c (by decide)).trans h2.1)
  -- the reference over what the class has left
  have ref : ∀ m1 : Mem, (∀ k, 3000 ≤ k → m1 k = m k) → ∃ (q : Int32) (key : Nat) (mm : Mem), key < 3 ∧ f_X9_text fu m1 = f_X9_text_33 fu q mm ∧ Fr FM m1 mm ∧ Out key r q mc mm := by
    intro m1 hm1
    obtain ⟨r2, q, key, mc2, mm, z0, z1, z2, -, z3, z4⟩ := read_ev hfu TC (TM m1 (hm1 _ (by decide)) (fun k _ => hm1 _ (by omega))) (KM m1 (fun k hk _ => hm1 k (by omega)))
    rw [e1] at z1
    cases z1
    exact ⟨q, key, mm, z0, z2, z3, z4⟩
  have m30 : ∀ k, 3000 ≤ k → upd mc 280 0 k = m k := fun k hk => by
    rw [pk_un (by omega)]
    exact fc k (fun p hp => by
      unfold FC at hp
      simp only [List.mem_cons, List.not_mem_nil, or_false] at hp
      rcases hp with rfl | rfl | rfl | rfl <;> simp only <;> omega)
  -- nothing is added
  have plain : ∀ (x : Int32) (mm : Mem), f_X8_text fu m = some (x, upd mc 280 0) → Fr FM (upd mc 280 0) mm → f_X9_text fu (upd mc 280 0) = some (x, upd mm 3002 0) → Op (f_X8_text fu) (f_X9_text fu) m := by
    intro x mm g1 fm g2
    refine ⟨x, upd mc 280 0, upd mm 3002 0, g1, g2, inv_tape2 hI0 ?_ ⟨0, by decide, ?_, pk_us, fun k hk => by omega⟩⟩
    · exact fr_tr (fr_tr (fr_tr (fc.inc (by decide)) (Fr.up.inc (by decide))) (fm.inc (by decide))) (Fr.up.inc (by decide))
    · rw [pk_un (by decide), fm.rg 280 281 (by decide) (by decide) (by decide), pk_us]; rfl
  rcases o0 with ⟨-, s, hs, rs, -⟩ | ⟨-, rm, -⟩
  · obtain ⟨q, key, mm, -, g2, g3, g4⟩ := ref _ m30
    have hnl : ¬ r < 0 := by rw [rs]; exact nI_pos (by omega)
    rcases g4 with ⟨rfl, s2, hs2, rs2, m4⟩ | ⟨-, rm, -⟩
    · refine plain (-100 - r) mm ?_ g3 ?_
      · unfold f_X8_text
        rw [e1, doI_some, seqM_eq, if_neg hnl]
      · rw [g2]
        unfold f_X9_text_33
        rw [seqM_eq, if_pos rfl, pk_un (by decide), m4, rs2]
    · exact absurd (show r < 0 by rw [rm]; decide) hnl
  · have hlt : r < 0 := by rw [rm]; decide
    have i14 : (nI N < 14) = (N < 14) := nI_ltP (b := 14) (by omega) (by decide)
    have ie14 : (nI N = 14) = (N = 14) := nI_eqP (b := 14) (by omega) (by decide)
    have good : ∀ {q : Int32} {key : Nat} {mm : Mem}, Out key r q mc mm → q = 1 ∧ ∃ (c : Row) (z a : Nat), RPN key c z ∧ a ≤ 96 ∧ mc (tf 14 0) = nI key ∧ mc (tf 14 1) = nI a ∧ mc (tf 14 2) = nI z ∧ (∀ i, i < z → mc (2444 + i) = c i) ∧ mm 3008 = nI key ∧ mm 3010 = nI a ∧ mm 3009 = nI z ∧ ∀ i, i < z → mm (3400 + i) = encM (c i) := by
      intro q key mm o
      rcases o with ⟨-, s, hs, rs, -⟩ | ⟨z0, -, z1⟩
      · exact absurd hlt (by rw [rs]; exact nI_pos (by omega))
      · exact ⟨z0, z1⟩
    have r15 : m 4015 = nI N := (h1.r (q := 15) (by decide)).trans h2.1
    by_cases hN : N < 14
    · -- what the class leaves
      obtain ⟨q1, key1, mm1, hk1, -, -, o1⟩ := ref _ m30
      obtain ⟨-, c, z, a, hr, ha, y0, y1, y2, y3, -⟩ := good o1
      have hz := hr.1
      obtain ⟨m5, hm5⟩ : ∃ m5, m5 = upd (upd (upd (upd mc 280 0) (tf N 0) (nI key1)) (tf N 1) (nI a)) (tf N 2) (nI z) := ⟨_, rfl⟩
      have m5c : ∀ i, i < z → m5 (2444 + i) = c i := fun i hi => by
        rw [hm5, pk_un (by unfold tf; omega), pk_un (by unfold tf; omega), pk_un (by unfold tf; omega), pk_un (by omega)]; exact y3 i hi
      obtain ⟨w1, w2⟩ := cpCode m5c hz hN
      obtain ⟨m8, hm8⟩ : ∃ m8, m8 = cpM m5 (1100 + 96 * 14) (1100 + 96 * N) 0 0 96 := ⟨_, rfl⟩
      rw [← hm8] at w1 w2
      obtain ⟨m1, hm1⟩ : ∃ m1, m1 = upd (upd m8 (51 + key1) (nI N)) (sf 0 15) (nI (N + 1)) := ⟨_, rfl⟩
      have m8o : ∀ k, ¬ (k = 280 ∨ (330 + 3 * N ≤ k ∧ k < 333 + 3 * N) ∨ (1100 + 96 * N ≤ k ∧ k < 1196 + 96 * N)) → m8 k = mc k := fun k hk => by
        rw [w2 k (by omega), hm5, pk_un (by unfold tf; omega), pk_un (by unfold tf; omega), pk_un (by unfold tf; omega), pk_un (by omega)]
      have m8t : ∀ k, k < 3 → m8 (tf N k) = m5 (tf N k) := fun k hk => w2 _ (by unfold tf; omega)
      have eX : f_X8_text fu m = some (nI N, m1) := by
        unfold f_X8_text
        rw [e1, doI_some, seqM_eq, if_pos hlt, pk_un (show sf 0 15 ≠ 280 by decide), c15, if_pos (by rw [i14]; exact hN), seqM_eq, inb_nI hN (by decide), chk_t, nI_clamp (by omega)]
        unfold f_X5_become
        rw [seqM_eq, seqM_eq, seqM_eq, pk_un (show tf 14 0 ≠ 280 by decide), y0, pk_un (show tf 14 1 ≠ tf N 0 by unfold tf; omega), pk_un (show tf 14 1 ≠ 280 by decide), y1, pk_un (show tf 14 2 ≠ tf N 1 by unfold tf; omega), pk_un (show tf 14 2 ≠ tf N 0 by unfold tf; omega), pk_un (show tf 14 2 ≠ 280 by decide), y2, ← hm5, show okCp 0 0 96 96 96 = true by decide, chk_t, seqM_eq, ← hm8, doV_some]
        have e14 : m8 (tf 14 0) = nI key1 := by rw [m8o _ (by unfold tf; omega)]; exact y0
        unfold f_X4_addText
        rw [e14, within_ev, doI_some, bz_t (show inR (nI key1) 0 2 from inR_of (a := 0) (b := 2) (by decide) (by omega) (by omega)), if_neg (by decide), inb_nI (show key1 < 3 by omega) (by decide), chk_t, nI_clamp (by omega), seqM_eq, seqM_eq, doV_some, show 51 + 70 * 0 + key1 = 51 + key1 by omega, m8o (sf 0 15) (by unfold sf; omega), c15, pk_un (show sf 0 15 ≠ 51 + key1 by unfold sf; omega), m8o (sf 0 15) (by unfold sf; omega), c15, nI_1, ← hm1]
      have m1o : ∀ k, ¬ (k = 15 ∨ k = 51 + key1 ∨ k = 280 ∨ (330 + 3 * N ≤ k ∧ k < 333 + 3 * N) ∨ (1100 + 96 * N ≤ k ∧ k < 1196 + 96 * N)) → m1 k = mc k := fun k hk => by
        rw [hm1, pk_un (by unfold sf; omega), pk_un (by omega), m8o k (by omega)]
      have m130 : ∀ k, 3000 ≤ k → m1 k = m k := fun k hk => by
        rw [m1o k (by omega), ← m30 k hk, pk_un (by omega)]
      obtain ⟨q, key, mm, hk, g2, g3, o2⟩ := ref m1 m130
      obtain ⟨rfl, c', z', a', hr', ha', y0', y1', y2', y3', x8, x10, x9, xc⟩ := good o2
      have hz' := hr'.1
      have ek : key = key1 := by
        rw [y0, nI_eqP (by omega) (by omega)] at y0'; exact y0'.symm
      have ea : a' = a := by
        rw [y1, nI_eqP (by omega) (by omega)] at y1'; exact y1'.symm
      have ez : z' = z := by
        rw [y2, nI_eqP (by omega) (by omega)] at y2'; exact y2'.symm
      subst ek ea ez
      have cc : ∀ i, i < z' → c i = c' i := fun i hi => by rw [← y3 i hi, y3' i hi]
      obtain ⟨n1, hn1⟩ : ∃ n1, n1 = upd (upd (upd mm 3002 0) (4051 + 2 * N) (nI (1000 * key + z'))) (4052 + 2 * N) (nI a') := ⟨_, rfl⟩
      have f30 : ∀ k, 3610 ≤ k → mm k = m k := fun k hk => by
        rw [← m130 k (by omega)]
        exact g3 k (fun p hp => by
          unfold FM at hp
          simp only [List.mem_cons, List.not_mem_nil, or_false] at hp
          rcases hp with rfl | rfl <;> simp only <;> omega)
      have n15 : n1 4015 = nI N := by rw [hn1, pk_un (by omega), pk_un (by omega), pk_un (by decide), f30 _ (by decide), r15]
      obtain ⟨M, k1, k2, k3, k4⟩ := m117_L (fu := fu) (c := c') (z := z') (N := N) hz' hN fu 0 n1 (Nat.zero_le _) (by omega) (by rw [hn1, pk_un (by omega), pk_un (by omega), pk_un (by decide)]; exact x9) n15 (fun k hk => by rw [hn1, pk_un (by omega), pk_un (by omega), pk_un (by omega)]; exact xc k hk) (fun k hk => by omega)
      have M1 : ∀ k, ¬ (k = 3002 ∨ k = 4015 ∨ k = 4051 + 2 * N ∨ k = 4052 + 2 * N ∨ (4079 + 96 * N ≤ k ∧ k < 4175 + 96 * N)) → M k = mm k := fun k hk => by
        rw [k4 k (by omega), hn1, pk_un (by omega), pk_un (by omega), pk_un (by omega)]
      have Mlow : ∀ k, k < 3000 → M k = m1 k := fun k hk => by
        rw [M1 k (by omega)]
        exact g3 k (fun p hp => by
          unfold FM at hp
          simp only [List.mem_cons, List.not_mem_nil, or_false] at hp
          rcases hp with rfl | rfl <;> simp only <;> omega)
      refine ⟨nI N, m1, M, eX, ?_, inv_text hA0 hN hk ha' hr' (fun k hk1 hk2 => ?_) ?_ ?_ ?_ ?_ k2 ?_ ?_ ?_ (fun i hi => ?_) ?_ ?_ k3⟩
      · rw [g2]
        unfold f_X9_text_33
        have e51 : 51 + 2 * nI N = nI (51 + 2 * N) := by rw [show (51 : Int32) = nI 51 from rfl, show (2 : Int32) = nI 2 from rfl, pk_mul, nI_add]
        have eks : 1000 * nI key + nI z' = nI (1000 * key + z') := by rw [show (1000 : Int32) = nI 1000 from rfl, pk_mul, nI_add]
        rw [seqM_eq, if_neg (by decide), show 4000 + 1500 * 0 + (15 : Int32).toNatClampNeg = 4015 by decide, pk_un (show (4015 : Nat) ≠ 3002 by decide), f30 _ (by decide), r15, if_neg (by rw [ie14]; omega), seqM_eq, e51, inb_nI (show 51 + 2 * N < 1423 by omega) (by decide), chk_t, seqM_eq, nI_1, inb_nI (show 51 + 2 * N + 1 < 1423 by omega) (by decide), chk_t, seqM_eq, nI_clamp (by omega), nI_clamp (by omega), show 4000 + 1500 * 0 + (51 + 2 * N) = 4051 + 2 * N by omega, show 4000 + 1500 * 0 + (51 + 2 * N + 1) = 4052 + 2 * N by omega, pk_un (show (3008 : Nat) ≠ 3002 by decide), x8, pk_un (show (3009 : Nat) ≠ 3002 by decide), x9, eks, pk_un (show (3010 : Nat) ≠ 4051 + 2 * N by omega), pk_un (show (3010 : Nat) ≠ 3002 by decide), x10, ← hn1]
        exact k1
      · by_cases kl : k < 3000
        · rw [Mlow k kl, m1o k (by omega)]
          exact fc k (fun p hp => by
            unfold FC at hp
            simp only [List.mem_cons, List.not_mem_nil, or_false] at hp
            rcases hp with rfl | rfl | rfl | rfl
            · exact hk1 (281, 289) (by decide)
            · exact hk1 (372, 375) (by decide)
            · exact hk1 (1000, 1096) (by decide)
            · exact hk1 (2444, 2540) (by decide))
        · rw [M1 k (by omega), ← m130 k (by omega)]
          exact g3 k (fun p hp => by
            unfold FM at hp
            simp only [List.mem_cons, List.not_mem_nil, or_false] at hp
            rcases hp with rfl | rfl
            · exact hk1 (3003, 3012) (by decide)
            · exact hk1 (3400, 3610) (by decide))
      · rw [Mlow _ (by decide), hm1]; exact pk_us
      · rw [Mlow _ (by omega), hm1, pk_un (by unfold sf; omega), pk_us]
      · rw [Mlow _ (by decide), hm1, pk_un (by decide), pk_un (by omega), w2 _ (by omega), hm5, pk_un (by unfold tf; omega), pk_un (by unfold tf; omega), pk_un (by unfold tf; omega), pk_us]
      · rw [k4 _ (by omega), hn1, pk_un (by omega), pk_un (by omega), pk_us]
      · rw [Mlow _ (by unfold tf; omega), hm1, pk_un (by unfold tf sf; omega), pk_un (by unfold tf; omega), m8t 0 (by decide), hm5, pk_un (by unfold tf; omega), pk_un (by unfold tf; omega), pk_us]
      · rw [Mlow _ (by unfold tf; omega), hm1, pk_un (by unfold tf sf; omega), pk_un (by unfold tf; omega), m8t 1 (by decide), hm5, pk_un (by unfold tf; omega), pk_us]
      · rw [Mlow _ (by unfold tf; omega), hm1, pk_un (by unfold tf sf; omega), pk_un (by unfold tf; omega), m8t 2 (by decide), hm5, pk_us]
      · rw [Mlow _ (by omega), hm1, pk_un (by unfold sf; omega), pk_un (by omega), w1 i hi, cc i hi]
      · rw [k4 _ (by omega), hn1, pk_un (by omega), pk_us]
      · rw [k4 _ (by omega), hn1, pk_us]
    · have hN14 : N = 14 := by omega
      obtain ⟨q, key, mm, -, g2, g3, o2⟩ := ref _ m30
      obtain ⟨rfl, -⟩ := good o2
      refine plain (-1000000003) mm ?_ g3 ?_
      · unfold f_X8_text
        rw [e1, doI_some, seqM_eq, if_pos hlt, pk_un (show sf 0 15 ≠ 280 by decide), c15, if_neg (by rw [i14]; exact hN)]
      · rw [g2]
        unfold f_X9_text_33
        rw [seqM_eq, if_neg (by decide), show 4000 + 1500 * 0 + (15 : Int32).toNatClampNeg = 4015 by decide, pk_un (by decide), g3.rg 4015 4016 (by decide) (by decide) (by decide), m30 _ (by decide), r15, if_pos (by rw [ie14]; exact hN14)]
end OPTEXT
