/-! PURE: both readers to their end -/
section LOOPS
variable {fu f g j n key t du br a h z F : Nat} {b hs : Nat → Nat} {w e : Int32} {c : Row} {m M mc mm : Mem}
theorem turn (hfu : 97 < fu) (hj : j ≤ t) (hdu : du = 0 ∨ du = 1) (hS : ST b n key t w e du br a hs h c z mc mm) : Ends key (f_X1_fault_6 fu (f + 1) (nI j) mc) (f_X9_takesE_28 fu (g + 1) (nI br) (nI (notsN hs (hR hs du h))) (nI du) mm) mc mm ∨ GoOn fu f g j b n key t (f_X1_fault_6 fu (f + 1) (nI j) mc) (f_X9_takesE_28 fu (g + 1) (nI br) (nI (notsN hs (hR hs du h))) (nI du) mm) mc mm := by
  obtain ⟨f1, f2⟩ := tF_ok (b := b) hS.1.1
  by_cases q : tF b n t = n
  · exact Or.inl (at_end hfu hj q hdu hS)
  · have hF : tF b n t < n := by omega
    by_cases hw : isLe b (tF b n t) ∨ isFi b (tF b n t)
    · by_cases he : nI (tF b n t) = e
      · exact Or.inl (at_glued hfu hj hF hdu hw he hS)
      · rcases hdu with rfl | rfl
        · exact Or.inl (at_word0 hfu hj hF hw he hS)
        · rcases hw with hL | hD
          · exact at_name hfu hj hF hL he hS
          · exact at_num hfu hj hF hD he hS
    · have hL : ¬ isLe b (tF b n t) := fun z => hw (Or.inl z)
      have hD : ¬ isFi b (tF b n t) := fun z => hw (Or.inr z)
      rcases hdu with rfl | rfl
      · by_cases h41 : b (tF b n t) = 41
        · exact at_close hfu hj hF h41 hS
        · exact at_sign hfu hj hF hL hD h41 hS
      · exact at_open hfu hj hF hL hD hS
theorem reads (hfu : 97 < fu) : ∀ (f g j t : Nat) (w e : Int32) (du br a : Nat) (hs : Nat → Nat) (h : Nat) (c : Row) (z : Nat) (mc mm : Mem), n - t < f → n - t < g → j ≤ t → (du = 0 ∨ du = 1) → ST b n key t w e du br a hs h c z mc mm → Ends key (f_X1_fault_6 fu f (nI j) mc) (f_X9_takesE_28 fu g (nI br) (nI (notsN hs (hR hs du h))) (nI du) mm) mc mm := by
  intro f
  induction f with
  | zero => intro g j t _ _ _ _ _ _ _ _ _ _ _ q; omega
  | succ f ih =>
    intro g j t w e du br a hs h c z mc mm hf hg hj hdu hS
    obtain ⟨g, rfl⟩ : ∃ g', g = g' + 1 := ⟨g - 1, by omega⟩
    rcases turn (f := f) (g := g) hfu hj hdu hS with q | ⟨t2, w2, e2, du2, br2, a2, hs2, h2, c2, z2, mc2, mm2, q1, q2, q3, q4, q5, q6, q7⟩
    · exact q
    · have ht2 := q7.1.1
      rw [q3, q4]
      obtain ⟨r, q, mc', mm', u1, u2, u3, u4, u5⟩ := ih g (j + 1) t2 w2 e2 du2 br2 a2 hs2 h2 c2 z2 mc2 mm2 (by omega) (by omega) (by omega) q2 q7
      exact ⟨r, q, mc', mm', u1, u2, fr_tr q5 u3, fr_tr q6 u4, u5⟩
end LOOPS
