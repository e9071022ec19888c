/-! PURE: the hands of both readers -/
theorem Fr.rg {L : List (Nat × Nat)} {m M : Mem} (hf : Fr L m M) (lo hi : Nat) (hd : disj L [(lo, hi)] = true) {k : Nat} (h1 : lo ≤ k) (h2 : k < hi) : M k = m k := hf.on hd k ⟨(lo, hi), List.mem_cons_self, h1, h2⟩
def FC : List (Nat × Nat) := [(281, 289), (372, 375), (1000, 1096), (2444, 2540)]
def FM : List (Nat × Nat) := [(3003, 3012), (3400, 3610)]
def Tok (b : Nat → Nat) (n t : Nat) (e : Int32) (M : Mem) : Prop := M 3004 = nI (tF b n t) ∧
    (tF b n t = n → M 3005 = 0 ∧ M 3003 = nI n ∧ M 3007 = e) ∧
    (tF b n t < n → isLe b (tF b n t) → M 3005 = (if nI (tF b n t) = e then 4 else 1) ∧ M 3006 = nI (b (tF b n t)) ∧ M 3003 = nI (endOf (isLe b) n (tF b n t)) ∧ M 3007 = nI (endOf (isLe b) n (tF b n t))) ∧
    (tF b n t < n → isFi b (tF b n t) → M 3005 = (if ¬ nI (tF b n t) = e ∧ endOf (isFi b) n (tF b n t) - tF b n t ≤ 4 then 2 else 4) ∧ M 3006 = nI (numV b (tF b n t) (min 4 (endOf (isFi b) n (tF b n t) - tF b n t))) ∧ M 3003 = nI (endOf (isFi b) n (tF b n t)) ∧ M 3007 = nI (endOf (isFi b) n (tF b n t))) ∧
    (tF b n t < n → ¬ isLe b (tF b n t) → ¬ isFi b (tF b n t) → M 3005 = 3 ∧ M 3006 = nI (b (tF b n t)) ∧ M 3003 = nI (tF b n t + 1) ∧ M 3007 = e)
section HANDS
variable {fu n t h z r x k : Nat} {m M : Mem} {b hs : Nat → Nat} {c : Row} {e w y : Int32}
theorem TpC.fr (hT : TpC b n m) (hf : Fr FC m M) : TpC b n M := ⟨hT.1, by rw [hf.rg 280 281 (by decide) (by decide) (by decide)]; exact hT.2.1, fun k hk => by
  have := hT.1
  rw [hf.rg 900 996 (by decide) (by omega) (by omega)]; exact hT.2.2 k hk⟩
theorem TpM.fr (hT : TpM b n m) (hf : Fr FM m M) : TpM b n M := ⟨hT.1, by rw [hf.rg 3002 3003 (by decide) (by decide) (by decide)]; exact hT.2.1, fun k hk => by
  have := hT.1
  rw [hf.rg 3200 3296 (by decide) (by omega) (by omega)]; exact hT.2.2 k hk⟩
theorem go_tok (hfu : 97 < fu) (ht : t ≤ n) (hT : TpM b n m) (h3 : m 3003 = nI t) (h7 : m 3007 = e) : ∃ M, f_X9_go fu m = some M ∧ Tok b n t e M ∧ Fr [(3003, 3008)] m M := by
  obtain ⟨M, a, a2, a3, a4⟩ := go_ev hfu ht hT h3 h7
  exact ⟨M, a, ⟨a2, a4⟩, a3⟩
theorem HdM.fr {L : List (Nat × Nat)} (hH : HdM hs h c z m) (hh : z + h ≤ 96) (hf : Fr L m M) (h1 : disj L [(3011, 3012)] = true) (h2 : disj L [(3009, 3010)] = true) (h3 : disj L [(3500, 3596)] = true) (h4 : disj L [(3400, 3496)] = true) : HdM hs h c z M :=
  ⟨by rw [hf.rg 3011 3012 h1 (by decide) (by decide)]; exact hH.1, by rw [hf.rg 3009 3010 h2 (by decide) (by decide)]; exact hH.2.1, fun i hi => by rw [hf.rg 3500 3596 h3 (by omega) (by omega)]; exact hH.2.2.1 i hi, fun i hi => by rw [hf.rg 3400 3496 h4 (by omega) (by omega)]; exact hH.2.2.2 i hi⟩
theorem HdC.fr {L : List (Nat × Nat)} (hH : HdC hs h c z m) (hh : z + h ≤ 96) (hf : Fr L m M) (h1 : disj L [(281, 282)] = true) (h2 : disj L [(374, 375)] = true) (h3 : disj L [(1000, 1096)] = true) (h4 : disj L [(2444, 2540)] = true) (h5 : disj L [(283, 284)] = true) : HdC hs h c z M :=
  ⟨by rw [hf.rg 281 282 h1 (by decide) (by decide)]; exact hH.1, by rw [hf.rg 374 375 h2 (by decide) (by decide)]; exact hH.2.1, fun i hi => by rw [hf.rg 1000 1096 h3 (by omega) (by omega)]; exact hH.2.2.1 i hi, fun i hi => by rw [hf.rg 2444 2540 h4 (by omega) (by omega)]; exact hH.2.2.2.1 i hi, by rw [hf.rg 283 284 h5 (by decide) (by decide)]; exact hH.2.2.2.2⟩
theorem settle_ev (hfu : 97 < fu) (hr : r < 100) (hz : z + h ≤ 96) (ho : ∀ i, i < h → okB (hs i)) (hH : HdM hs h c z m) : ∃ M, f_X9_settle fu (nI r) m = some M ∧ HdM hs (popTo hs (if r = 0 then 1 else r) h) (putS hs h (popTo hs (if r = 0 then 1 else r) h) z c) (z + (h - popTo hs (if r = 0 then 1 else r) h)) M ∧ Fr [(3011, 3012), (3009, 3010), (3400, 3496)] m M := settle_L fu h z c m hr (by omega) hz ho hH
theorem release_ev (hfu : 97 < fu) (hr : 1 ≤ r) (hr2 : r < 100) (hz : z + h ≤ 93) (ho : ∀ i, i < h → okB (hs i)) (hH : HdC hs h c z m) : ∃ M, f_X1_release fu (nI r) m = some M ∧ HdC hs (popTo hs r h) (putS hs h (popTo hs r h) z c) (z + (h - popTo hs r h)) M ∧ Fr [(281, 282), (283, 284), (374, 375), (2444, 2540)] m M := release_L hr hr2 fu h z 0 c m (by omega) (by omega) (by omega) ho hH
theorem nots_L (hh : h ≤ 96) (ho : ∀ i, i < h → okB (hs i)) (h1 : m 3011 = nI h) (h2 : ∀ i, i < h → m (3500 + i) = encS (hs i)) : ∀ (f i : Nat), i ≤ h → h - i < f → f_X9_notsOpen_4 fu f (nI (notsN hs i)) (nI i) m = some (nI (notsN hs h), m) := by
  intro f
  induction f with
  | zero => intro i _ q; omega
  | succ f ih =>
    intro i hi hf2
    rw [f_X9_notsOpen_4, h1]
    by_cases q : i = h
    · subst q
      rw [if_pos (nI_le (Nat.le_refl _) (by omega))]
    · have hlt : i < h := by omega
      rw [if_neg (nI_ge hlt (by omega)), inb_nI (show i < 96 by omega) (by decide), chk_t, nI_clamp (by omega), h2 i hlt]
      unfold f_X9_notsOpen_29
      have hn := ih (i + 1) (by omega) (by omega)
      rw [notsN] at hn
      by_cases w : hs i = 33
      · rw [if_pos (by rw [encS_33 (ho i hlt)]; exact w), seqM_eq, seqM_eq, nI_1, nI_1]
        rw [if_pos w] at hn
        exact hn
      · rw [if_neg (by rw [encS_33 (ho i hlt)]; exact w), seqM_eq, seqM_eq, nI_1, show nI (notsN hs i) + 0 = nI (notsN hs i + 0) from nI_add _ 0]
        rw [if_neg w] at hn
        exact hn
theorem nots_ev (hfu : 97 < fu) (hh : h ≤ 96) (ho : ∀ i, i < h → okB (hs i)) (hH : HdM hs h c z m) : f_X9_notsOpen fu m = some (nI (notsN hs h), m) := nots_L hh ho hH.1 hH.2.2.1 fu 0 (Nat.zero_le _) (by omega)
abbrev biB (x : Nat) : Prop := okB x ∧ ¬ x = 33 ∧ ¬ x = 40
theorem biB_rk (hx : x < 256) : (rkB x < 1 ∨ 6 ≤ rkB x) ↔ ¬ (x = 38 ∨ x = 42 ∨ x = 43 ∨ x = 45 ∨ x = 47 ∨ x = 60 ∨ x = 61 ∨ x = 62 ∨ x = 124) := by
  have d : ∀ x, x < 256 → ((rkB x < 1 ∨ 6 ≤ rkB x) ↔ ¬ (x = 38 ∨ x = 42 ∨ x = 43 ∨ x = 45 ∨ x = 47 ∨ x = 60 ∨ x = 61 ∨ x = 62 ∨ x = 124)) := by decide +kernel
  exact d x hx
theorem sign_no (hx : x < 256) (h5 : m 3005 = 3) (h6 : m 3006 = nI x) (hn : rkB x < 1 ∨ 6 ≤ rkB x) : f_X9_signHere fu m = some (0, m) := by
  have q := (biB_rk hx).mp hn
  have e : ∀ k, k < 256 → (nI x = nI k) = (x = k) := fun k hk => nI_eqP (by omega) (by omega)
  unfold f_X9_signHere
  rw [if_pos h5, h6, seqM_eq, if_neg (by rw [show (38 : Int32) = nI 38 from rfl, e _ (by decide)]; omega), if_neg (by rw [show (42 : Int32) = nI 42 from rfl, e _ (by decide)]; omega), if_neg (by rw [show (43 : Int32) = nI 43 from rfl, e _ (by decide)]; omega), if_neg (by rw [show (45 : Int32) = nI 45 from rfl, e _ (by decide)]; omega), if_neg (by rw [show (47 : Int32) = nI 47 from rfl, e _ (by decide)]; omega), if_neg (by rw [show (60 : Int32) = nI 60 from rfl, e _ (by decide)]; omega), if_neg (by rw [show (61 : Int32) = nI 61 from rfl, e _ (by decide)]; omega), if_neg (by rw [show (62 : Int32) = nI 62 from rfl, e _ (by decide)]; omega), if_neg (by rw [show (124 : Int32) = nI 124 from rfl, e _ (by decide)]; omega)]
theorem sign_off (h5 : ¬ m 3005 = 3) : f_X9_signHere fu m = some (0, m) := by
  unfold f_X9_signHere
  rw [if_neg h5]
theorem sign_yes (hx : x < 256) (h5 : m 3005 = 3) (h6 : m 3006 = nI x) (hn : ¬ (rkB x < 1 ∨ 6 ≤ rkB x)) : f_X9_signHere fu m = some (encS x, m) ∧ ¬ encS x = 0 ∧ biB x := by
  have q := mt (biB_rk hx).mpr hn
  have q : x = 38 ∨ x = 42 ∨ x = 43 ∨ x = 45 ∨ x = 47 ∨ x = 60 ∨ x = 61 ∨ x = 62 ∨ x = 124 := Decidable.of_not_not q
  unfold f_X9_signHere
  rw [if_pos h5, h6, seqM_eq]
  rcases q with rfl | rfl | rfl | rfl | rfl | rfl | rfl | rfl | rfl
  all_goals exact ⟨rfl, by decide, by unfold biB okB; omega⟩
theorem hold_ev (hh : h < 96) (h1 : m 281 = nI h) (h2 : ∀ i, i < h → m (1000 + i) = nI (hs i)) : ∃ M, f_X1_hold fu (nI x) m = some M ∧ M 281 = nI (h + 1) ∧ (∀ i, i < h + 1 → M (1000 + i) = nI (psh hs h x i)) ∧ Fr [(281, 282), (1000, 1096)] m M := by
  unfold f_X1_hold
  rw [h1, if_neg (by rw [show (96 : Int32) = nI 96 from rfl]; exact nI_ge hh (by decide)), inb_nI hh (by decide), chk_t, nI_clamp (by omega), seqM_eq, seqM_eq, pk_un (show 281 ≠ 1000 + h by omega), h1, nI_1]
  refine ⟨_, rfl, pk_us, fun i hi => ?_, fun q hq => ?_⟩
  · rw [pk_un (by omega)]
    by_cases d : i = h
    · subst d; rw [pk_us, psh_h]
    · rw [pk_un (by omega), psh_lt (by omega)]; exact h2 i (by omega)
  · have p1 := hq (281, 282) (by decide)
    have p2 := hq (1000, 1096) (by decide)
    simp only at p1 p2
    rw [pk_un (by omega), pk_un (by omega)]
theorem atom_ev {a : Nat} (hz : z + h < 96) (ha : m (tf 14 1) = nI a) (hH : HdC hs h c z m) : ∃ M, f_X1_takesAtom fu w m = some M ∧ HdC hs h (upd c z w) (z + 1) M ∧ M (tf 14 1) = nI (a + 1) ∧ M 284 = 0 ∧ Fr [(284, 285), (373, 375), (2444, 2540)] m M := by
  obtain ⟨a1, a2, a3, a4, a5⟩ := hH
  unfold f_X1_takesAtom f_X5_put
  rw [a2, if_neg (by rw [show (96 : Int32) = nI 96 from rfl]; exact nI_ge (by omega) (by decide)), inb_nI (show z < 96 by omega) (by decide), chk_t, nI_clamp (by omega), seqM_eq, seqM_eq, doV_some, seqM_eq, seqM_eq, show 1100 + 96 * 14 + z = 2444 + z by omega, pk_un (show tf 14 2 ≠ 2444 + z by unfold tf; omega), a2, nI_1, pk_un (show tf 14 1 ≠ tf 14 2 by decide), pk_un (show tf 14 1 ≠ 2444 + z by unfold tf; omega), ha, nI_1]
  refine ⟨_, rfl, ⟨?_, ?_, fun i hi => ?_, fun i hi => ?_, ?_⟩, ?_, pk_us, fun q hq => ?_⟩
  · rw [pk_un (by decide), pk_un (by decide), pk_un (by decide), pk_un (by omega)]; exact a1
  · rw [pk_un (by decide), pk_un (by decide), pk_us]
  · rw [pk_un (by omega), pk_un (by unfold tf; omega), pk_un (by unfold tf; omega), pk_un (by omega)]; exact a3 i hi
  · rw [pk_un (by omega), pk_un (by unfold tf; omega), pk_un (by unfold tf; omega)]
    by_cases d : i = z
    · subst d; rw [pk_us, pk_us]
    · rw [pk_un (by omega), pk_un d]; exact a4 i (by omega)
  · rw [pk_un (by decide), pk_un (by decide), pk_un (by decide), pk_un (by omega)]; exact a5
  · rw [pk_un (by decide), pk_us]
  · have p1 := hq (284, 285) (by decide)
    have p2 := hq (373, 375) (by decide)
    have p3 := hq (2444, 2540) (by decide)
    simp only at p1 p2 p3
    rw [pk_un (by omega), pk_un (by unfold tf; omega), pk_un (by unfold tf; omega), pk_un (by omega)]
theorem mpush (hz : z + h < 96) (hH : HdM hs h c z m) (hy : y = encS x) : HdM (psh hs h x) (h + 1) c z (upd (upd m (3500 + h) y) 3011 (nI (h + 1))) ∧ Fr [(3011, 3012), (3500, 3596)] m (upd (upd m (3500 + h) y) 3011 (nI (h + 1))) := by
  obtain ⟨a1, a2, a3, a4⟩ := hH
  refine ⟨⟨pk_us, ?_, fun i hi => ?_, fun i hi => ?_⟩, fun q hq => ?_⟩
  · rw [pk_un (by decide), pk_un (by omega)]; exact a2
  · rw [pk_un (by omega)]
    by_cases d : i = h
    · subst d; rw [pk_us, psh_h, hy]
    · rw [pk_un (by omega), psh_lt (by omega)]; exact a3 i (by omega)
  · rw [pk_un (by omega), pk_un (by omega)]; exact a4 i hi
  · have p1 := hq (3011, 3012) (by decide)
    have p2 := hq (3500, 3596) (by decide)
    simp only at p1 p2
    rw [pk_un (by omega), pk_un (by omega)]
theorem part87 {a : Nat} (hfu : 97 < fu) (ht : t ≤ n) (hz : z + h < 96) (ho : ∀ i, i < h → okB (hs i)) (hT : TpM b n m) (h3 : m 3003 = nI t) (h7 : m 3007 = e) (ha : m 3010 = nI a) (hH : HdM hs h c z m) (hy : y = encM w) : ∃ M, f_X9_takesPart_87 fu (nI z) y m = some (1, M) ∧ HdM hs (popTo hs 6 h) (putS hs h (popTo hs 6 h) (z + 1) (upd c z w)) (z + 1 + (h - popTo hs 6 h)) M ∧ M 3010 = nI (a + 1) ∧ Tok b n t e M ∧ Fr [(3003, 3008), (3009, 3012), (3400, 3496)] m M := by
  obtain ⟨a1, a2, a3, a4⟩ := hH
  unfold f_X9_takesPart_87
  rw [inb_nI (show z < 96 by omega) (by decide), chk_t, nI_clamp (by omega), seqM_eq, seqM_eq, seqM_eq, pk_un (show 3009 ≠ 3400 + z by omega), a2, nI_1, pk_un (show 3010 ≠ 3009 by decide), pk_un (show 3010 ≠ 3400 + z by omega), ha, nI_1]
  generalize hm1 : upd (upd (upd m (3400 + z) y) 3009 (nI (z + 1))) 3010 (nI (a + 1)) = m1
  have H1 : HdM hs h (upd c z w) (z + 1) m1 := by
    rw [← hm1]
    refine ⟨?_, ?_, fun i hi => ?_, fun i hi => ?_⟩
    · rw [pk_un (by decide), pk_un (by decide), pk_un (by omega)]; exact a1
    · rw [pk_un (by decide), pk_us]
    · rw [pk_un (by omega), pk_un (by omega), pk_un (by omega)]; exact a3 i hi
    · rw [pk_un (by omega), pk_un (by omega)]
      by_cases d : i = z
      · subst d; rw [pk_us, pk_us, hy]
      · rw [pk_un (by omega), pk_un d]; exact a4 i (by omega)
  have F1 : Fr [(3009, 3012), (3400, 3496)] m m1 := fun q hq => by
    have p1 := hq (3009, 3012) (by decide)
    have p2 := hq (3400, 3496) (by decide)
    simp only at p1 p2
    rw [← hm1, pk_un (by omega), pk_un (by omega), pk_un (by omega)]
  have A1 : m1 3010 = nI (a + 1) := by rw [← hm1, pk_us]
  obtain ⟨M1, s1, s2, s3⟩ := settle_ev (r := 6) hfu (by decide) (by omega) ho H1
  rw [if_neg (by decide)] at s2
  rw [show (6 : Int32) = nI 6 from rfl, s1, doV_some]
  have F2 : Fr [(3009, 3012), (3400, 3496)] m M1 := fr_tr F1 (s3.inc (by decide))
  obtain ⟨M2, g1, g2, g3⟩ := go_tok (m := M1) (e := e) hfu ht (hT.fr (F2.inc (by decide))) (by rw [F2.rg 3003 3004 (by decide) (by decide) (by decide)]; exact h3) (by rw [F2.rg 3007 3008 (by decide) (by decide) (by decide)]; exact h7)
  rw [g1, doV_some]
  have le := popTo_le (hs := hs) (r := 6) h
  exact ⟨M2, rfl, s2.fr (by omega) g3 (by decide) (by decide) (by decide) (by decide), by rw [g3.rg 3010 3011 (by decide) (by decide) (by decide), s3.rg 3010 3011 (by decide) (by decide) (by decide)]; exact A1, g2, fr_tr (F2.inc (by decide)) (g3.inc (by decide))⟩
end HANDS
