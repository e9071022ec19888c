/-! PURE: signs that are held -/
def rkB (x : Nat) : Nat := if x = 33 then 6 else if x = 38 then 2 else if x = 42 then 5 else if x = 43 then 4 else if x = 45 then 4 else if x = 47 then 5 else if x = 60 then 3 else if x = 61 then 3 else if x = 62 then 3 else if x = 124 then 1 else 0
def encS (x : Nat) : Int32 := if x = 40 then -11 else encM (-(nI x))
def okB (x : Nat) : Prop := x = 33 ∨ x = 38 ∨ x = 40 ∨ x = 42 ∨ x = 43 ∨ x = 45 ∨ x = 47 ∨ x = 60 ∨ x = 61 ∨ x = 62 ∨ x = 124
/-- how many signs are left when those of rank r or more have gone -/
def popTo (hs : Nat → Nat) (r : Nat) : Nat → Nat
  | 0 => 0
  | h + 1 => if rkB (hs h) < r then h + 1 else popTo hs r h
/-- the code when signs h' to h-1 have gone to it -/
def putS (hs : Nat → Nat) (h h' z : Nat) (c : Row) : Row := fun i => if z ≤ i ∧ i < z + (h - h') then -(nI (hs (h - 1 - (i - z)))) else c i
def notsN (hs : Nat → Nat) : Nat → Nat
  | 0 => 0
  | h + 1 => notsN hs h + (if hs h = 33 then 1 else 0)
section HELD
variable {fu n h z r : Nat} {m M : Mem} {hs : Nat → Nat} {c : Row} {x : Int32}
theorem rank_ev {x : Nat} (hx : x < 256) : f_X1_rank fu (nI x) m = some (nI (rkB x), m) := by
  have e : ∀ k, k < 256 → (nI x = nI k) = (x = k) := fun k hk => nI_eqP (by omega) (by omega)
  unfold f_X1_rank rkB
  rw [show (33 : Int32) = nI 33 from rfl, show (38 : Int32) = nI 38 from rfl, show (42 : Int32) = nI 42 from rfl, show (43 : Int32) = nI 43 from rfl, show (45 : Int32) = nI 45 from rfl, show (47 : Int32) = nI 47 from rfl, show (60 : Int32) = nI 60 from rfl, show (61 : Int32) = nI 61 from rfl, show (62 : Int32) = nI 62 from rfl, show (124 : Int32) = nI 124 from rfl]
  simp only [e 33 (by decide), e 38 (by decide), e 42 (by decide), e 43 (by decide), e 45 (by decide), e 47 (by decide), e 60 (by decide), e 61 (by decide), e 62 (by decide), e 124 (by decide)]
  repeat (first | rfl | split)
theorem mrank_ev {x : Nat} (hx : okB x) (h40 : ¬ x = 40) : f_X9_rank fu (encS x) m = some (nI (rkB x), m) := by
  unfold okB at hx
  rcases hx with rfl | rfl | rfl | rfl | rfl | rfl | rfl | rfl | rfl | rfl | rfl
  all_goals first | rfl | exact absurd rfl h40
theorem encS_40 {x : Nat} (hx : okB x) : (encS x = -11) = (x = 40) := by
  unfold okB at hx
  rcases hx with rfl | rfl | rfl | rfl | rfl | rfl | rfl | rfl | rfl | rfl | rfl <;> decide
theorem encS_33 {x : Nat} (hx : okB x) : (encS x = -10) = (x = 33) := by
  unfold okB at hx
  rcases hx with rfl | rfl | rfl | rfl | rfl | rfl | rfl | rfl | rfl | rfl | rfl <;> decide
theorem rk_pos {x : Nat} (hx : okB x) (h40 : ¬ x = 40) : 1 ≤ rkB x ∧ rkB x ≤ 6 := by
  unfold okB at hx
  rcases hx with rfl | rfl | rfl | rfl | rfl | rfl | rfl | rfl | rfl | rfl | rfl
  all_goals first | decide | exact absurd rfl h40
theorem popTo_le : ∀ h, popTo hs r h ≤ h := by
  intro h
  induction h with
  | zero => exact Nat.le_refl _
  | succ h ih => rw [popTo]; split <;> omega
theorem putS_0 : putS hs h h z c = c := by
  funext i
  unfold putS
  rw [if_neg (by omega)]
theorem putS_s {h' : Nat} (hh : h' ≤ h) : putS hs h h' (z + 1) (upd c z (-(nI (hs h)))) = putS hs (h + 1) h' z c := by
  funext i
  unfold putS
  by_cases a : i = z
  · subst a
    rw [if_neg (by omega), pk_us, if_pos (by omega), show h + 1 - 1 - (i - i) = h by omega]
  · by_cases d : z + 1 ≤ i ∧ i < z + 1 + (h - h')
    · rw [if_pos d, if_pos (by omega), show h - 1 - (i - (z + 1)) = h + 1 - 1 - (i - z) by omega]
    · rw [if_neg d, pk_un a, if_neg (by omega)]
/-- what the reference holds: signs at 3500, code at 3400 -/
def HdM (hs : Nat → Nat) (h : Nat) (c : Row) (z : Nat) (m : Mem) : Prop := m 3011 = nI h ∧ m 3009 = nI z ∧ (∀ i, i < h → m (3500 + i) = encS (hs i)) ∧ ∀ i, i < z → m (3400 + i) = encM (c i)
theorem settle_L : ∀ (f h z : Nat) (c : Row) (m : Mem), r < 100 → h < f → z + h ≤ 96 → (∀ i, i < h → okB (hs i)) → HdM hs h c z m → ∃ M, f_X9_settle_0 fu f (nI r) m = some M ∧ HdM hs (popTo hs (if r = 0 then 1 else r) h) (putS hs h (popTo hs (if r = 0 then 1 else r) h) z c) (z + (h - popTo hs (if r = 0 then 1 else r) h)) M ∧ Fr [(3011, 3012), (3009, 3010), (3400, 3496)] m M := by
  intro f
  induction f with
  | zero => intro h _ _ _ _ hh; omega
  | succ f ih =>
    intro h z c m hr100 hhf hz ho hH
    obtain ⟨a1, a2, a3, a4⟩ := hH
    rw [f_X9_settle_0, a1]
    have stay : HdM hs h (putS hs h h z c) (z + (h - h)) m := by
      rw [putS_0, Nat.sub_self, Nat.add_zero]
      exact ⟨a1, a2, a3, a4⟩
    cases h with
    | zero =>
      rw [if_pos (by decide)]
      exact ⟨m, rfl, stay, fr_nil⟩
    | succ h =>
      have ok := ho h (by omega)
      have eh : nI (h + 1) - 1 = nI h := nI_pred h
      rw [if_neg (by rw [show (0 : Int32) = nI 0 from rfl]; exact nI_ge (by omega) (by omega)), eh, inb_nI (show h < 96 by omega) (by decide), chk_t, chk_t, nI_clamp (by omega), a3 h (by omega)]
      rw [popTo]
      by_cases q : hs h = 40
      · have hr : rkB (hs h) < (if r = 0 then 1 else r) := by
          rw [q, show rkB 40 = 0 from rfl]
          split <;> omega
        rw [if_pos (by rw [encS_40 ok]; exact q), if_pos hr]
        exact ⟨m, rfl, stay, fr_nil⟩
      · rw [if_neg (by rw [encS_40 ok]; exact q), mrank_ev ok q, doI_some]
        obtain ⟨k1, k2⟩ := rk_pos ok q
        have ei : (nI (rkB (hs h)) < nI r) = (rkB (hs h) < (if r = 0 then 1 else r)) := by
          rw [nI_ltP (by omega) (by omega)]
          by_cases r0 : r = 0
          · rw [if_pos r0]
            refine propext ⟨fun _ => ?_, fun _ => ?_⟩ <;> omega
          · rw [if_neg r0]
        by_cases w : rkB (hs h) < (if r = 0 then 1 else r)
        · rw [if_pos (by rw [ei]; exact w), if_pos w]
          exact ⟨m, rfl, stay, fr_nil⟩
        · rw [if_neg (by rw [ei]; exact w), if_neg w]
          simp only [seqM_eq]
          rw [a1, eh, pk_us, pk_un (show (3009 : Nat) ≠ 3011 by decide), a2, inb_nI (show h < 96 by omega) (by decide), inb_nI (show z < 96 by omega) (by decide), chk_t, chk_t, nI_clamp (by omega), nI_clamp (by omega), pk_un (show 3500 + h ≠ 3011 by omega), a3 h (by omega), pk_un (show 3009 ≠ 3400 + z by omega), pk_un (show (3009 : Nat) ≠ 3011 by decide), a2, nI_1]
          have e1 : encS (hs h) = encM (-(nI (hs h))) := by unfold encS; rw [if_neg q]
          have H2 : HdM hs h (upd c z (-(nI (hs h)))) (z + 1) (upd (upd (upd m 3011 (nI h)) (3400 + z) (encS (hs h))) 3009 (nI (z + 1))) := by
            refine ⟨by rw [pk_un (by decide), pk_un (by omega), pk_us], pk_us, fun i hi => ?_, fun i hi => ?_⟩
            · rw [pk_un (by omega), pk_un (by omega), pk_un (by omega)]
              exact a3 i (by omega)
            · by_cases d : i = z
              · subst d
                rw [pk_un (by omega), pk_us, pk_us, e1]
              · rw [pk_un (by omega), pk_un (by omega), pk_un (by omega), pk_un d]
                exact a4 i (by omega)
          obtain ⟨M, m1, m2, m3⟩ := ih h (z + 1) _ _ hr100 (by omega) (by omega) (fun i hi => ho i (by omega)) H2
          have le := popTo_le (hs := hs) (r := if r = 0 then 1 else r) h
          refine ⟨M, m1, ?_, fun j hj => ?_⟩
          · rw [putS_s le] at m2
            rw [show z + (h + 1 - popTo hs (if r = 0 then 1 else r) h) = z + 1 + (h - popTo hs (if r = 0 then 1 else r) h) by omega]
            exact m2
          · have p1 := hj (3011, 3012) (by decide)
            have p2 := hj (3009, 3010) (by decide)
            have p3 := hj (3400, 3496) (by decide)
            simp only at p1 p2 p3
            rw [m3 j hj, pk_un (by omega), pk_un (by omega), pk_un (by omega)]
/-- what the class holds -/
def HdC (hs : Nat → Nat) (h : Nat) (c : Row) (z : Nat) (m : Mem) : Prop := m 281 = nI h ∧ m (tf 14 2) = nI z ∧ (∀ i, i < h → m (1000 + i) = nI (hs i)) ∧ (∀ i, i < z → m (2444 + i) = c i) ∧ m 283 = nI (notsN hs h)
def topR (hs : Nat → Nat) : Nat → Nat
  | 0 => 0
  | k + 1 => rkB (hs k)
theorem top_ev (hh : h ≤ 96) (h1 : m 281 = nI h) (h2 : ∀ i, i < h → m (1000 + i) = nI (hs i)) (ho : ∀ i, i < h → okB (hs i)) : f_X1_topRank fu m = some (nI (topR hs h), m) := by
  unfold f_X1_topRank
  rw [h1]
  cases h with
  | zero => rw [if_neg (by decide)]; rfl
  | succ h =>
    have ok := ho h (by omega)
    have lt : hs h < 256 := by unfold okB at ok; omega
    rw [if_pos (by rw [show (1 : Int32) = nI 1 from rfl]; exact nI_le (by omega) (by omega)), nI_pred, inb_nI (show h < 96 by omega) (by decide), chk_t, nI_clamp (by omega), h2 h (by omega), rank_ev lt, doI_some]
    rfl
theorem release_L (hr : 1 ≤ r) (hr2 : r < 100) : ∀ (f h z j : Nat) (c : Row) (m : Mem), h < f → j + h < 96 → z + h ≤ 96 → (∀ i, i < h → okB (hs i)) → HdC hs h c z m → ∃ M, f_X1_release_2 fu f (nI r) (nI j) m = some M ∧ HdC hs (popTo hs r h) (putS hs h (popTo hs r h) z c) (z + (h - popTo hs r h)) M ∧ Fr [(281, 282), (283, 284), (374, 375), (2444, 2540)] m M := by
  intro f
  induction f with
  | zero => intro h _ _ _ _ hh; omega
  | succ f ih =>
    intro h z j c m hhf hj hz ho hH
    obtain ⟨a1, a2, a3, a4, a5⟩ := hH
    rw [f_X1_release_2, if_neg (by rw [show (96 : Int32) = nI 96 from rfl]; exact nI_ge (by omega) (by omega)), top_ev (by omega) a1 a3 ho, doI_some]
    have stay : HdC hs h (putS hs h h z c) (z + (h - h)) m := by
      rw [putS_0, Nat.sub_self, Nat.add_zero]
      exact ⟨a1, a2, a3, a4, a5⟩
    cases h with
    | zero =>
      rw [if_pos (by show nI 0 < nI r; rw [nI_ltP (by omega) (by omega)]; omega)]
      exact ⟨m, rfl, stay, fr_nil⟩
    | succ h =>
      have ok := ho h (by omega)
      have lt : hs h < 256 := by unfold okB at ok; omega
      have k2 : rkB (hs h) < 100 := by
        by_cases q : hs h = 40
        · rw [q]; decide
        · have := (rk_pos ok q).2; omega
      have ei : (nI (rkB (hs h)) < nI r) = (rkB (hs h) < r) := nI_ltP (by omega) (by omega)
      show ∃ M, (if nI (rkB (hs h)) < nI r then _ else _) = some M ∧ _
      rw [popTo]
      by_cases w : rkB (hs h) < r
      · rw [if_pos (by rw [ei]; exact w), if_pos w]
        exact ⟨m, rfl, stay, fr_nil⟩
      · rw [if_neg (by rw [ei]; exact w), if_neg w, seqM_eq, a1, nI_pred, pk_us, inb_nI (show h < 96 by omega) (by decide), chk_t, nI_clamp (by omega), pk_un (show 1000 + h ≠ 281 by omega), a3 h (by omega)]
        have e33 : (nI (hs h) = 33) = (hs h = 33) := nI_eqP (b := 33) (by omega) (by decide)
        have le := popTo_le (hs := hs) (r := r) h
        have body : ∀ L : Mem, L 281 = nI h → L (tf 14 2) = nI z → (∀ i, i < h + 1 → L (1000 + i) = nI (hs i)) → (∀ i, i < z → L (2444 + i) = c i) → L 283 = nI (notsN hs h) → Fr [(281, 282), (283, 284)] m L → ∃ M, f_X1_release_50 fu (f_X1_release_2 fu f) (nI r) (nI j) L = some M ∧ HdC hs (popTo hs r h) (putS hs (h + 1) (popTo hs r h) z c) (z + (h + 1 - popTo hs r h)) M ∧ Fr [(281, 282), (283, 284), (374, 375), (2444, 2540)] m M := by
          intro L b1 b2 b3 b4 b5 bf
          unfold f_X1_release_50 f_X5_put
          rw [b1, inb_nI (show h < 96 by omega) (by decide), chk_t, nI_clamp (by omega), b3 h (by omega), b2, if_neg (by rw [show (96 : Int32) = nI 96 from rfl]; exact nI_ge (by omega) (by omega)), inb_nI (show z < 96 by omega) (by decide), chk_t, nI_clamp (by omega), seqM_eq, seqM_eq, doV_some, seqM_eq, show 1100 + 96 * 14 + z = 2444 + z by omega, pk_un (show tf 14 2 ≠ 2444 + z by unfold tf; omega), b2, nI_1, nI_1]
          obtain ⟨M, m1, m2, m3⟩ := ih h (z + 1) (j + 1) (upd c z (-(nI (hs h)))) (upd (upd L (2444 + z) (-(nI (hs h)))) (tf 14 2) (nI (z + 1))) (by omega) (by omega) (by omega) (fun i hi => ho i (by omega)) ⟨by rw [pk_un (by unfold tf; omega), pk_un (by omega), b1], pk_us, fun i hi => by rw [pk_un (by unfold tf; omega), pk_un (by omega)]; exact b3 i (by omega), fun i hi => by
            rw [pk_un (by unfold tf; omega)]
            by_cases d : i = z
            · subst d; rw [pk_us, pk_us]
            · rw [pk_un (by omega), pk_un d]; exact b4 i (by omega), by rw [pk_un (by unfold tf; omega), pk_un (by omega), b5]⟩
          refine ⟨M, m1, ?_, fun q hq => ?_⟩
          · rw [putS_s le] at m2
            rw [show z + (h + 1 - popTo hs r h) = z + 1 + (h - popTo hs r h) by omega]
            exact m2
          · have p1 := hq (281, 282) (by decide)
            have p2 := hq (283, 284) (by decide)
            have p3 := hq (374, 375) (by decide)
            have p4 := hq (2444, 2540) (by decide)
            simp only at p1 p2 p3 p4
            rw [m3 q hq, pk_un (by unfold tf; omega), pk_un (by omega)]
            exact bf q (fun p hp => by
              simp only [List.mem_cons, List.not_mem_nil, or_false] at hp
              rcases hp with rfl | rfl
              · exact p1
              · exact p2)
        have fr1 : Fr [(281, 282), (283, 284)] m (upd m 281 (nI h)) := fun q hq => by
          have p1 := hq (281, 282) (by decide)
          simp only at p1
          rw [pk_un (by omega)]
        by_cases q33 : hs h = 33
        · rw [if_pos (by rw [e33]; exact q33), seqM_eq, pk_un (show (283 : Nat) ≠ 281 by decide), a5, notsN, if_pos q33, nI_pred]
          refine body _ (by rw [pk_un (by decide), pk_us]) (by rw [pk_un (by unfold tf; omega), pk_un (by unfold tf; omega), a2]) (fun i hi => by rw [pk_un (by omega), pk_un (by omega)]; exact a3 i hi) (fun i hi => by rw [pk_un (by omega), pk_un (by omega)]; exact a4 i hi) pk_us (fun q hq => ?_)
          have p2 := hq (283, 284) (by decide)
          simp only at p2
          rw [pk_un (by omega)]
          exact fr1 q hq
        · rw [if_neg (by rw [e33]; exact q33)]
          exact body _ pk_us (by rw [pk_un (by unfold tf; omega), a2]) (fun i hi => by rw [pk_un (by omega)]; exact a3 i hi) (fun i hi => by rw [pk_un (by omega)]; exact a4 i hi) (by rw [pk_un (by decide), a5, notsN, if_neg q33, Nat.add_zero]) fr1
end HELD
