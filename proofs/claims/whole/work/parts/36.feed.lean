/-! PURE: feed -/
section FEED
variable {fu n N v k B : Nat} {σ τ ρ : Row} {m M M' : Mem} {X : TxS} {x x1 x2 x3 : Int32}
theorem toI_nat (z : Int32) : z.toInt = if 2 * z.toBitVec.toNat < 4294967296 then (z.toBitVec.toNat : Int) else (z.toBitVec.toNat : Int) - 4294967296 := by
  have : z.toInt = z.toBitVec.toInt := rfl
  rw [this, BitVec.toInt_eq_toNat_cond]
  rfl
def byteN (y : Int32) (j : Nat) : Nat := y.toBitVec.toNat / 2 ^ (24 - 8 * j) % 256
theorem byte_r (y : Int32) : ∀ j, j < 4 → (y >>> ((24 - (8 * nI j)) &&& 31)) &&& 255 = nI (byteN y j) := by
  intro j hj
  have key : ∀ (s : Int32) (k : Nat), (s.toBitVec.smod 32).toNat = k → k = 0 ∨ k = 8 ∨ k = 16 ∨ k = 24 → (y >>> s) &&& 255 = nI (y.toBitVec.toNat / 2 ^ k % 256) := by
    intro s k hs hk
    rw [pk_and (y >>> s) 8 (by decide)]
    have e := pk_shr y s k hs
    rw [Int.shiftRight_eq_div_pow] at e
    have a := toI_nat y
    have b := toI_nat (y >>> s)
    have c := y.toBitVec.isLt
    have d := (y >>> s).toBitVec.isLt
    congr 1
    rw [e] at b
    generalize (y >>> s).toBitVec.toNat = P at *
    generalize y.toBitVec.toNat = Q at *
    rw [a] at b
    rcases hk with rfl | rfl | rfl | rfl
    all_goals
      simp only [Nat.reducePow] at b ⊢
      split at b <;> split at b <;> omega
  unfold byteN
  have : j = 0 ∨ j = 1 ∨ j = 2 ∨ j = 3 := by omega
  rcases this with rfl | rfl | rfl | rfl
  · exact key _ 24 (by decide) (by decide)
  · exact key _ 16 (by decide) (by decide)
  · exact key _ 8 (by decide) (by decide)
  · exact key _ 0 (by decide) (by decide)
theorem byte_c (y : Int32) : ∀ j, j < 4 → (ushr y (nI (24 - 8 * j))) &&& 255 = nI (byteN y j) := by
  intro j hj
  rw [pk_and _ 8 (by decide)]
  unfold byteN ushr
  have : j = 0 ∨ j = 1 ∨ j = 2 ∨ j = 3 := by omega
  rcases this with rfl | rfl | rfl | rfl
  · rw [pk_ushr y _ 24 (by decide)]
  · rw [pk_ushr y _ 16 (by decide)]
  · rw [pk_ushr y _ 8 (by decide)]
  · rw [pk_ushr y _ 0 (by decide)]
theorem byteN_lt {y : Int32} {j : Nat} : byteN y j < 256 := Nat.mod_lt _ (by decide)
/-- i bytes of y, after a bytes of the tape, in the class -/
def putC (b a i : Nat) (B : Nat → Int32) (m : Mem) : Mem := fun k => if b + a ≤ k ∧ k < b + a + i then B (k - (b + a)) else m k
theorem putC_0 {b a : Nat} {B : Nat → Int32} : putC b a 0 B m = m := by
  funext k
  unfold putC
  rw [if_neg (by omega)]
theorem putC_s {b a i : Nat} {B : Nat → Int32} : upd (putC b a i B m) (b + (a + i)) (B i) = putC b a (i + 1) B m := by
  funext k
  unfold putC upd
  dsimp only
  by_cases h : k = b + (a + i)
  · subst h
    rw [if_pos rfl, if_pos (by omega)]
    congr 1
    omega
  · rw [if_neg h]
    by_cases h2 : b + a ≤ k ∧ k < b + a + i
    · rw [if_pos h2, if_pos (by omega)]
    · rw [if_neg h2, if_neg (by omega)]
def Bt3 (x1 x2 x3 : Int32) (i : Nat) : Int32 := nI (byteN (if i < 4 then x1 else if i < 8 then x2 else x3) (i % 4))
def tapC (a i : Nat) (B : Nat → Int32) (m : Mem) : Mem := upd (putC 900 a i B m) 280 (nI (a + i))
theorem append_L {B : Nat → Int32} {a c : Nat} (ha : a + 12 ≤ 96) (hc : c ≤ 8) (y : Int32) (hB : ∀ j, j < 4 → B (c + j) = nI (byteN y j)) : ∀ (f j : Nat), j ≤ 4 → 4 - j < f → f_X1_append_3 fu f y (nI 24 - nI (8 * j)) (tapC a (c + j) B m) = some (tapC a (c + 4) B m) := by
  intro f
  induction f with
  | zero => intro j _ h; omega
  | succ f ih =>
    intro j hj hf
    rw [f_X1_append_3]
    by_cases he : j = 4
    · subst he
      rw [if_pos (by decide)]
    · have e8 : nI 24 - nI (8 * j) = nI (24 - 8 * j) := pk_sub (by omega)
      have e280 : tapC a (c + j) B m 280 = nI (a + (c + j)) := pk_us
      rw [if_neg (by rw [e8, show (0 : Int32) = nI 0 from rfl, nI_ltP (by omega) (by decide)]; omega), e280, if_neg (by rw [show (96 : Int32) = nI 96 from rfl]; exact nI_ge (by omega) (by decide)), inb_nI (by omega) (by decide), chk_t, nI_clamp (by omega), seqM_eq, seqM_eq, e8, byte_c y j (by omega), ← hB j (by omega)]
      unfold f_X1_append_42
      rw [seqM_eq]
      have e1 : upd (upd (tapC a (c + j) B m) (900 + (a + (c + j))) (B (c + j))) 280 ((upd (tapC a (c + j) B m) (900 + (a + (c + j))) (B (c + j))) 280 + 1) = tapC a (c + (j + 1)) B m := by
        rw [pk_un (show 280 ≠ 900 + (a + (c + j)) by omega), e280, nI_1]
        unfold tapC
        rw [upd_comm (show 280 ≠ 900 + (a + (c + j)) by omega), putC_s, upd_upd]
        rfl
      have e2 : nI (24 - 8 * j) + -8 = nI 24 - nI (8 * (j + 1)) := by
        have d : ∀ j, j < 4 → nI (24 - 8 * j) + -8 = nI 24 - nI (8 * (j + 1)) := by decide
        exact d j (by omega)
      rw [e1, e2]
      exact ih (j + 1) (by omega) (by omega)
theorem append_ev {B : Nat → Int32} {a c : Nat} (hf : 4 < fu) (ha : a + 12 ≤ 96) (hc : c ≤ 8) (y : Int32) (hB : ∀ j, j < 4 → B (c + j) = nI (byteN y j)) : f_X1_append fu y (tapC a c B m) = some (tapC a (c + 4) B m) :=
  append_L ha hc y hB fu 0 (by decide) (by omega)
theorem feed_L {a : Nat} (ha : a + 12 ≤ 96) (h3 : m 3002 = nI a) : ∀ (f i : Nat), i ≤ 12 → 12 - i < f → f_X9_feed_18 fu f x1 x2 x3 (nI i) (putC 3200 a i (Bt3 x1 x2 x3) m) = some (nI (a + 12), upd (putC 3200 a 12 (Bt3 x1 x2 x3) m) 3002 (nI (a + 12))) := by
  have e2 : ∀ i, i ≤ 12 → putC 3200 a i (Bt3 x1 x2 x3) m 3002 = nI a := fun i hi => by
    unfold putC
    rw [if_neg (by omega), h3]
  intro f
  induction f with
  | zero => intro i _ h; omega
  | succ f ih =>
    intro i hi hf
    rw [f_X9_feed_18]
    by_cases he : i = 12
    · subst he
      rw [if_pos (by decide), e2 12 (by decide), show nI a + 12 = nI (a + 12) from nI_add a 12, seqM_eq, pk_us]
    · rw [if_neg (by rw [show (12 : Int32) = nI 12 from rfl]; exact nI_ge (by omega) (by decide))]
      have key : ∀ y, Bt3 x1 x2 x3 i = nI (byteN y (i % 4)) → f_X9_feed_47 fu (f_X9_feed_18 fu f) x1 x2 x3 (nI i) y (putC 3200 a i (Bt3 x1 x2 x3) m) = some (nI (a + 12), upd (putC 3200 a 12 (Bt3 x1 x2 x3) m) 3002 (nI (a + 12))) := by
        intro y hy
        unfold f_X9_feed_47
        have er : irem (nI i) 4 = nI (i % 4) := pk_rem (d := 4) (by omega) (by decide) (by decide)
        rw [e2 i hi, nI_add, inb_nI (by omega) (by decide), chk_t, nI_clamp (by omega), er, byte_r y (i % 4) (by omega), ← hy, seqM_eq, seqM_eq, putC_s, nI_1]
        exact ih (i + 1) (by omega) (by omega)
      by_cases h4 : i < 4
      · rw [if_neg (by rw [show (4 : Int32) = nI 4 from rfl]; exact nI_ge h4 (by decide))]
        exact key x1 (by unfold Bt3; rw [if_pos h4])
      · rw [if_pos (by rw [show (4 : Int32) = nI 4 from rfl]; exact nI_le (by omega) (by omega))]
        by_cases h8 : i < 8
        · rw [if_neg (by rw [show (8 : Int32) = nI 8 from rfl]; exact nI_ge h8 (by decide))]
          exact key x2 (by unfold Bt3; rw [if_neg h4, if_pos h8])
        · rw [if_pos (by rw [show (8 : Int32) = nI 8 from rfl]; exact nI_le (by omega) (by omega))]
          exact key x3 (by unfold Bt3; rw [if_neg h4, if_neg h8])
theorem op_feed (hf : 96 < fu) (hI : Inv m) : Op (f_X8_feed fu x1 x2 x3) (f_X9_feed fu x1 x2 x3) m := by
  have hI0 := hI
  obtain ⟨n, N, σ, τ, X, h1, h2, h3, h4, ⟨a, ha9, ha, hb, hq⟩, h6, h7, h8, h9⟩ := hI
  have e12 : nI a + 12 = nI (a + 12) := nI_add a 12
  by_cases hA : a + 12 ≤ 96
  · have e0 : tapC a 0 (Bt3 x1 x2 x3) m = m := by
      unfold tapC
      rw [putC_0, Nat.add_zero, ← ha, upd_self]
    have c1 := append_ev (fu := fu) (m := m) (B := Bt3 x1 x2 x3) (a := a) (c := 0) (by omega) hA (by decide) x1 (fun j hj => by unfold Bt3; rw [if_pos (by omega), show (0 + j) % 4 = j by omega])
    have c2 := append_ev (fu := fu) (m := m) (B := Bt3 x1 x2 x3) (a := a) (c := 4) (by omega) hA (by decide) x2 (fun j hj => by unfold Bt3; rw [if_neg (by omega), if_pos (by omega), show (4 + j) % 4 = j by omega])
    have c3 := append_ev (fu := fu) (m := m) (B := Bt3 x1 x2 x3) (a := a) (c := 8) (by omega) hA (by decide) x3 (fun j hj => by unfold Bt3; rw [if_neg (by omega), if_neg (by omega), show (8 + j) % 4 = j by omega])
    rw [e0] at c1
    have f3 := feed_L (fu := fu) (m := tapC a 12 (Bt3 x1 x2 x3) m) (x1 := x1) (x2 := x2) (x3 := x3) hA (by unfold tapC putC; rw [pk_un (by decide), if_neg (by omega), hb]) fu 0 (by decide) (by omega)
    rw [putC_0] at f3
    refine ⟨nI (a + 12), tapC a 12 (Bt3 x1 x2 x3) m, upd (putC 3200 a 12 (Bt3 x1 x2 x3) (tapC a 12 (Bt3 x1 x2 x3) m)) 3002 (nI (a + 12)), ?_, ?_, ?_⟩
    · unfold f_X8_feed
      rw [ha, e12, if_pos (by rw [show (96 : Int32) = nI 96 from rfl]; exact nI_le hA (by decide)), c1, doV_some, c2, doV_some, c3, doV_some]
      have : tapC a (8 + 4) (Bt3 x1 x2 x3) m 280 = nI (a + 12) := pk_us
      rw [this]
    · unfold f_X9_feed
      have e : tapC a 12 (Bt3 x1 x2 x3) m 3002 = nI a := by unfold tapC putC; rw [pk_un (by decide), if_neg (by omega), hb]
      rw [e, e12, if_pos (by rw [show (96 : Int32) = nI 96 from rfl]; exact nI_le hA (by decide))]
      exact f3
    · refine inv_tape hI0 (fun j hj => ?_) ⟨a + 12, hA, ?_, pk_us, fun i hi => ?_⟩
      · have p1 := hj (280, 281) (by decide)
        have p2 := hj (900, 996) (by decide)
        have p3 := hj (3002, 3003) (by decide)
        have p4 := hj (3200, 3296) (by decide)
        simp only at p1 p2 p3 p4
        unfold tapC putC
        rw [pk_un (by omega), if_neg (by omega), pk_un (by omega), if_neg (by omega)]
      · unfold tapC putC
        rw [pk_un (by omega), if_neg (by omega), pk_us]
      · have vr : upd (putC 3200 a 12 (Bt3 x1 x2 x3) (tapC a 12 (Bt3 x1 x2 x3) m)) 3002 (nI (a + 12)) (3200 + i) = if a ≤ i then Bt3 x1 x2 x3 (i - a) else m (3200 + i) := by
          rw [pk_un (by omega)]
          unfold tapC putC
          by_cases h : a ≤ i
          · rw [if_pos (by omega), if_pos h]; congr 1; omega
          · rw [if_neg (by omega), if_neg h, pk_un (by omega), if_neg (by omega)]
        have vc : upd (putC 3200 a 12 (Bt3 x1 x2 x3) (tapC a 12 (Bt3 x1 x2 x3) m)) 3002 (nI (a + 12)) (900 + i) = if a ≤ i then Bt3 x1 x2 x3 (i - a) else m (900 + i) := by
          rw [pk_un (by omega)]
          unfold tapC putC
          by_cases h : a ≤ i
          · rw [if_neg (by omega), pk_un (by omega), if_pos (by omega), if_pos h]; congr 1; omega
          · rw [if_neg (by omega), if_neg h, pk_un (by omega), if_neg (by omega)]
        rw [vr, vc]
        by_cases h : a ≤ i
        · rw [if_pos h, if_pos h]
          exact ⟨rfl, _, byteN_lt, rfl⟩
        · rw [if_neg h, if_neg h]
          exact hq i (by omega)
  · refine op_pure hI0 (-1000000003) ?_ ?_
    · unfold f_X8_feed
      rw [ha, e12, if_neg (by rw [show (96 : Int32) = nI 96 from rfl]; exact nI_ge (by omega) (by omega))]
    · unfold f_X9_feed
      rw [hb, e12, if_neg (by rw [show (96 : Int32) = nI 96 from rfl]; exact nI_ge (by omega) (by omega))]
end FEED
