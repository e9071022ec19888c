/-! WHAT THE START GIVES -/
theorem tb1 (i : Nat) {w : Cond} (h : tables_1_1[i]? = some w) : w ∈ lw_tbl := List.mem_append_right _ (List.mem_append_left _ (List.mem_of_getElem? h))
theorem tb2 (i : Nat) {w : Cond} (h : tables_1_2[i]? = some w) : w ∈ lw_tbl := List.mem_append_right _ (List.mem_append_right _ (List.mem_append_left _ (List.mem_of_getElem? h)))
theorem tb3 (i : Nat) {w : Cond} (h : tables_1_3[i]? = some w) : w ∈ lw_tbl := List.mem_append_right _ (List.mem_append_right _ (List.mem_append_right _ (List.mem_append_left _ (List.mem_of_getElem? h))))
theorem tb4 (i : Nat) {w : Cond} (h : tables_1_4[i]? = some w) : w ∈ lw_tbl := List.mem_append_right _ (List.mem_append_right _ (List.mem_append_right _ (List.mem_append_right _ (List.mem_append_left _ (List.mem_of_getElem? h)))))
theorem tb5 (i : Nat) {w : Cond} (h : tables_1_5[i]? = some w) : w ∈ lw_tbl := List.mem_append_right _ (List.mem_append_right _ (List.mem_append_right _ (List.mem_append_right _ (List.mem_append_right _ (List.mem_append_left _ (List.mem_of_getElem? h))))))
theorem tb6 (i : Nat) {w : Cond} (h : tables_1_6[i]? = some w) : w ∈ lw_tbl := List.mem_append_right _ (List.mem_append_right _ (List.mem_append_right _ (List.mem_append_right _ (List.mem_append_right _ (List.mem_append_right _ (List.mem_of_getElem? h))))))
set_option maxRecDepth 20000 in
theorem giv_CK {s : State} {b : Nat} (hts : ∀ w ∈ lw_tbl, w.before #[Value.ref b] s = true) : ∃ Y : CD, CK Y s := by
  have hb : ∀ w ∈ bigW, w.before #[Value.ref b] s = true := fun w hw => hts w (List.mem_filter.mp hw).1
  obtain ⟨c0, i0, k0⟩ := u_known hb iX0 (hb _ w_301)
  obtain ⟨c1, i1, k1⟩ := u_known hb iX1 (hb _ w_129)
  obtain ⟨c2, i2, k2⟩ := u_known hb iX2 (hb _ w_315)
  obtain ⟨c3, i3, k3⟩ := u_known hb iX3 (hb _ w_335)
  obtain ⟨c4, i4, k4⟩ := u_known hb iX4 (hb _ w_176)
  obtain ⟨c5, i5, k5⟩ := u_known hb iX5 (hb _ w_95)
  obtain ⟨c6, i6, k6⟩ := u_known hb iX6 (hb _ w_88)
  obtain ⟨c7, i7, k7⟩ := u_known hb iX7 (hb _ w_183)
  obtain ⟨c8, i8, k8⟩ := u_known hb iX8 (hb _ w_80)
  obtain ⟨c9, i9, k9⟩ := u_known hb iX9 (hb _ w_999)
  obtain ⟨a0, ka0, co0, p0, q0, r0⟩ := Cond.arrayClass_spec (hb _ w_119)
  obtain ⟨a1, ka1, co1, p1, q1, r1⟩ := Cond.arrayClass_spec (hb _ w_1110)
  obtain ⟨a2, ka2, co2, p2, q2, r2⟩ := Cond.arrayClass_spec (hb _ w_1112)
  obtain ⟨a3, ka3, co3, p3, q3, r3⟩ := Cond.arrayClass_spec (hb _ w_1111)
  have ao4 : va_AO RX7 s := va_AO.of (hts _ (tb1 122 rfl))
  obtain ⟨co4, a4, ka4, f4, g4, q4, r4, p4⟩ := Cond.arrayOver_spec ao4
  have ao5 : va_AO RX5 s := va_AO.of (hts _ (tb1 34 rfl))
  obtain ⟨co5, a5, ka5, f5, g5, q5, r5, p5⟩ := Cond.arrayOver_spec ao5
  have ao6 : va_AO RX2 s := va_AO.of (hts _ (tb2 14 rfl))
  obtain ⟨co6, a6, ka6, f6, g6, q6, r6, p6⟩ := Cond.arrayOver_spec ao6
  have ao7 : va_AO RX3 s := va_AO.of (hts _ (tb2 34 rfl))
  obtain ⟨co7, a7, ka7, f7, g7, q7, r7, p7⟩ := Cond.arrayOver_spec ao7
  refine ⟨((fun c => [c0, c1, c2, c3, c4, c5, c6, c7, c8, c9].getD c 0, fun c => [i0, i1, i2, i3, i4, i5, i6, i7, i8, i9].getD c (fun _ => 0)), fun c => [a0, a1, a2, a3, a4, a5, a6, a7].getD c 0), ⟨fun c q hq => ?_, fun k q hq => ?_⟩, ⟨ao4, ao5, ao6, ao7⟩, va_Nw.of rfl (hts _ (tb2 2 rfl)), va_Nw.of rfl (hts _ (tb2 16 rfl)), va_Nw.of rfl (hts _ (tb2 36 rfl)), va_Nw.of rfl (hts _ (tb1 75 rfl)), va_Nw.of rfl (hts _ (tb1 36 rfl)), va_Nw.of rfl (hts _ (tb2 41 rfl)), va_Nw.of rfl (hts _ (tb2 43 rfl)), va_Nw.of rfl (hts _ (tb1 124 rfl))⟩
  · have hc : c < 10 := (List.getElem?_eq_some_iff.mp hq).1
    have hc : c = 0 ∨ c = 1 ∨ c = 2 ∨ c = 3 ∨ c = 4 ∨ c = 5 ∨ c = 6 ∨ c = 7 ∨ c = 8 ∨ c = 9 := by omega
    rcases hc with rfl | rfl | rfl | rfl | rfl | rfl | rfl | rfl | rfl | rfl
    · cases hq; exact k0
    · cases hq; exact k1
    · cases hq; exact k2
    · cases hq; exact k3
    · cases hq; exact k4
    · cases hq; exact k5
    · cases hq; exact k6
    · cases hq; exact k7
    · cases hq; exact k8
    · cases hq; exact k9
  · have hk : k < 8 := (List.getElem?_eq_some_iff.mp hq).1
    have hk : k = 0 ∨ k = 1 ∨ k = 2 ∨ k = 3 ∨ k = 4 ∨ k = 5 ∨ k = 6 ∨ k = 7 := by omega
    rcases hk with rfl | rfl | rfl | rfl | rfl | rfl | rfl | rfl
    · cases hq; exact ⟨fun _ _ => ⟨fun k h => (by cases h), ka0, q0, co0, r0⟩, p0⟩
    · cases hq; exact ⟨fun _ _ => ⟨fun k h => (by cases h), ka1, q1, co1, r1⟩, p1⟩
    · cases hq; exact ⟨fun _ _ => ⟨fun k h => (by cases h), ka2, q2, co2, r2⟩, p2⟩
    · cases hq; exact ⟨fun _ _ => ⟨fun k h => (by cases h), ka3, q3, co3, r3⟩, p3⟩
    · cases hq; exact ⟨fun _ _ => ⟨fun k h => (by cases h), ka4, q4, co4, r4⟩, ka4, co4, q4, r4, f4, p4⟩
    · cases hq; exact ⟨fun _ _ => ⟨fun k h => (by cases h), ka5, q5, co5, r5⟩, ka5, co5, q5, r5, f5, p5⟩
    · cases hq; exact ⟨fun _ _ => ⟨fun k h => (by cases h), ka6, q6, co6, r6⟩, ka6, co6, q6, r6, f6, p6⟩
    · cases hq; exact ⟨fun _ _ => ⟨fun k h => (by cases h), ka7, q7, co7, r7⟩, ka7, co7, q7, r7, f7, p7⟩
theorem fl {s : State} {args : Array Value} (i : Nat) {w : Cond} (h : (flatC (Jvm.Cond.and given_1 narrow_1))[i]? = some w) (hgv : (Jvm.Cond.and given_1 narrow_1).before args s = true) : w.before args s = true := flat_of_before _ hgv _ (List.mem_of_getElem? h)
def tmS (i : Nat) : Term := .string RX1 (([91, 97, 99, 122, 124, 126] : List Nat).getD i 0)
theorem six {i : Nat} (h : i < 6) : i = 0 ∨ i = 1 ∨ i = 2 ∨ i = 3 ∨ i = 4 ∨ i = 5 := by omega
set_option maxRecDepth 20000 in
theorem giv_S {s : State} {b : Nat} (hgv : (Jvm.Cond.and given_1 narrow_1).before #[Value.ref b] s = true) : ∃ adK adV : Nat → Nat, vk_S 6 slen sbyt adK adV (fun q => s.heap.size ≤ q) s s.heap ∧ ∀ i : Nat, i < 6 → (tmS i).eval #[Value.ref b] s none [] s = some (.ref (adK i)) := by
  refine vk_Sof (tm := tmS) (fun i hi => ?_) (fun i hi => ?_) (fun i hi => ?_) (fun i hi => ?_) (fun i hi => ?_) (fun i hi j hj => ?_) (fun i j hi hj hij => ?_) (fun a ha => Nat.not_le.mpr ha)
  · rcases six hi with rfl | rfl | rfl | rfl | rfl | rfl <;> decide
  · rcases six hi with rfl | rfl | rfl | rfl | rfl | rfl
    · exact (fl 49 rfl hgv)
    · exact (fl 56 rfl hgv)
    · exact (fl 64 rfl hgv)
    · exact (fl 74 rfl hgv)
    · exact (fl 84 rfl hgv)
    · exact (fl 94 rfl hgv)
  · rcases six hi with rfl | rfl | rfl | rfl | rfl | rfl
    · exact (fl 50 rfl hgv)
    · exact (fl 57 rfl hgv)
    · exact (fl 65 rfl hgv)
    · exact (fl 75 rfl hgv)
    · exact (fl 85 rfl hgv)
    · exact (fl 95 rfl hgv)
  · rcases six hi with rfl | rfl | rfl | rfl | rfl | rfl
    · exact (fl 51 rfl hgv)
    · exact (fl 58 rfl hgv)
    · exact (fl 66 rfl hgv)
    · exact (fl 76 rfl hgv)
    · exact (fl 86 rfl hgv)
    · exact (fl 96 rfl hgv)
  · rcases six hi with rfl | rfl | rfl | rfl | rfl | rfl
    · exact (fl 52 rfl hgv)
    · exact (fl 59 rfl hgv)
    · exact (fl 67 rfl hgv)
    · exact (fl 77 rfl hgv)
    · exact (fl 87 rfl hgv)
    · exact (fl 97 rfl hgv)
  · rcases six hi with rfl | rfl | rfl | rfl | rfl | rfl
    · have hj : j < 3 := hj
      have hj : j = 0 ∨ j = 1 ∨ j = 2 := by omega
      rcases hj with rfl | rfl | rfl
      · exact (fl 53 rfl hgv)
      · exact (fl 54 rfl hgv)
      · exact (fl 55 rfl hgv)
    · have hj : j < 3 := hj
      have hj : j = 0 ∨ j = 1 ∨ j = 2 := by omega
      rcases hj with rfl | rfl | rfl
      · exact (fl 60 rfl hgv)
      · exact (fl 61 rfl hgv)
      · exact (fl 62 rfl hgv)
    · have hj : j < 4 := hj
      have hj : j = 0 ∨ j = 1 ∨ j = 2 ∨ j = 3 := by omega
      rcases hj with rfl | rfl | rfl | rfl
      · exact (fl 68 rfl hgv)
      · exact (fl 69 rfl hgv)
      · exact (fl 70 rfl hgv)
      · exact (fl 71 rfl hgv)
    · have hj : j < 3 := hj
      have hj : j = 0 ∨ j = 1 ∨ j = 2 := by omega
      rcases hj with rfl | rfl | rfl
      · exact (fl 78 rfl hgv)
      · exact (fl 79 rfl hgv)
      · exact (fl 80 rfl hgv)
    · have hj : j < 2 := hj
      have hj : j = 0 ∨ j = 1 := by omega
      rcases hj with rfl | rfl
      · exact (fl 88 rfl hgv)
      · exact (fl 89 rfl hgv)
    · have hj : j < 2 := hj
      have hj : j = 0 ∨ j = 1 := by omega
      rcases hj with rfl | rfl
      · exact (fl 98 rfl hgv)
      · exact (fl 99 rfl hgv)
  · rcases six hi with rfl | rfl | rfl | rfl | rfl | rfl
    · rcases six hj with rfl | rfl | rfl | rfl | rfl | rfl
      · exact absurd rfl hij
      · exact Or.inl (fl 63 rfl hgv)
      · exact Or.inl (fl 72 rfl hgv)
      · exact Or.inl (fl 81 rfl hgv)
      · exact Or.inl (fl 90 rfl hgv)
      · exact Or.inl (fl 100 rfl hgv)
    · rcases six hj with rfl | rfl | rfl | rfl | rfl | rfl
      · exact Or.inr (fl 63 rfl hgv)
      · exact absurd rfl hij
      · exact Or.inl (fl 73 rfl hgv)
      · exact Or.inl (fl 82 rfl hgv)
      · exact Or.inl (fl 91 rfl hgv)
      · exact Or.inl (fl 101 rfl hgv)
    · rcases six hj with rfl | rfl | rfl | rfl | rfl | rfl
      · exact Or.inr (fl 72 rfl hgv)
      · exact Or.inr (fl 73 rfl hgv)
      · exact absurd rfl hij
      · exact Or.inl (fl 83 rfl hgv)
      · exact Or.inl (fl 92 rfl hgv)
      · exact Or.inl (fl 102 rfl hgv)
    · rcases six hj with rfl | rfl | rfl | rfl | rfl | rfl
      · exact Or.inr (fl 81 rfl hgv)
      · exact Or.inr (fl 82 rfl hgv)
      · exact Or.inr (fl 83 rfl hgv)
      · exact absurd rfl hij
      · exact Or.inl (fl 93 rfl hgv)
      · exact Or.inl (fl 103 rfl hgv)
    · rcases six hj with rfl | rfl | rfl | rfl | rfl | rfl
      · exact Or.inr (fl 90 rfl hgv)
      · exact Or.inr (fl 91 rfl hgv)
      · exact Or.inr (fl 92 rfl hgv)
      · exact Or.inr (fl 93 rfl hgv)
      · exact absurd rfl hij
      · exact Or.inl (fl 104 rfl hgv)
    · rcases six hj with rfl | rfl | rfl | rfl | rfl | rfl
      · exact Or.inr (fl 100 rfl hgv)
      · exact Or.inr (fl 101 rfl hgv)
      · exact Or.inr (fl 102 rfl hgv)
      · exact Or.inr (fl 103 rfl hgv)
      · exact Or.inr (fl 104 rfl hgv)
      · exact absurd rfl hij
theorem giv_KK {s : State} {b : Nat} {X : TX} (hts : ∀ w ∈ lw_tbl, w.before #[Value.ref b] s = true) (hK : CK (aD X, cA X) s) (hev : ∀ i : Nat, i < 6 → (tmS i).eval #[Value.ref b] s none [] s = some (.ref (adK X i))) : KK X s :=
  ⟨hK.1, va_Nw.of rfl (hts _ (tb2 107 rfl)), va_Nw.of rfl (hts _ (tb2 185 rfl)), va_Nw.of rfl (hts _ (tb3 179 rfl)), vk_R.of (hts _ (tb3 191 rfl)) (hev 0 (by decide)), vk_R.of (hts _ (tb4 4 rfl)) (hev 1 (by decide)), vk_R.of (hts _ (tb4 5 rfl)) (hev 2 (by decide)), vk_R.of (hts _ (tb4 26 rfl)) (hev 3 (by decide)), vk_R.of (hts _ (tb4 27 rfl)) (hev 4 (by decide)), vk_R.of (hts _ (tb4 28 rfl)) (hev 5 (by decide)), va_Nw.of rfl (hts _ (tb4 113 rfl))⟩
theorem giv_SS {s : State} {b : Nat} {X : TX} (hts : ∀ w ∈ lw_tbl, w.before #[Value.ref b] s = true) (hgv : (Jvm.Cond.and given_1 narrow_1).before #[Value.ref b] s = true) (hS : vk_S 6 slen sbyt (adK X) (adV X) (fun q => s.heap.size ≤ q) s s.heap) (hA : ∀ q, ar X q → s.heap.size ≤ q) : SS X s s.heap :=
  ⟨vk_S.narrow hS hA, va_Zof (hts _ (tb3 205 rfl)) (hts _ (List.mem_filter.mp w_73).1) (va_eqt (fl 4 rfl hgv)) (fun a ha h => Nat.not_le.mpr ha (hA a h)), va_Zqof (hts _ (tb3 221 rfl)) (hts _ (tb1 15 rfl)) (fl 5 rfl hgv) (fun a ha h => Nat.not_le.mpr ha (hA a h))⟩
