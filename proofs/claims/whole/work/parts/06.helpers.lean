def ushr (x y : Int32) : Int32 := (x.toUInt32 >>> (y.toUInt32 &&& Int32.toUInt32 31)).toInt32
def irem (x y : Int32) : Int32 := x - x / y * y
def hiW (x : Int64) : Int32 := Int32.ofInt (x.toInt / 4294967296)
def loW (x : Int64) : Int32 := Int32.ofInt (x.toInt % 4294967296)
def updL (m : Mem) (k : Nat) (x : Int64) : Mem := upd (upd m k (hiW x)) (k + 1) (loW x)
def okCp (sp dp n : Int32) (n0 n1 : Nat) : Bool := decide (¬ sp < 0 ∧ ¬ dp < 0 ∧ ¬ n < 0 ∧ sp.toNatClampNeg + n.toNatClampNeg ≤ n0 ∧ dp.toNatClampNeg + n.toNatClampNeg ≤ n1)
def cpM (m : Mem) (b0 b1 : Nat) (sp dp n : Int32) : Mem := fun k => if b1 + dp.toNatClampNeg ≤ k ∧ k < b1 + dp.toNatClampNeg + n.toNatClampNeg then m (b0 + sp.toNatClampNeg + (k - (b1 + dp.toNatClampNeg))) else m k
theorem comb_split (x : Int64) : comb (hiW x) (loW x) = x := by
  unfold comb hiW loW
  have h1 := Int64.le_toInt x
  have h2 := Int64.toInt_lt x
  have e : (Int32.ofInt (x.toInt / 4294967296)).toInt * 4294967296 + (Int32.ofInt (x.toInt % 4294967296)).toInt % 4294967296 = x.toInt := by
    rw [Int32.toInt_ofInt, Int32.toInt_ofInt]
    rw [show Int32.size = 4294967296 from rfl]
    simp only [Int.bmod_def]
    split <;> split <;> omega
  rw [e, Int64.ofInt_toInt]
section HLP
variable {X : TX} {p : Program} {l : Launch} {e : Env} {R : Room} {s : State} {mi : MethodId} {args : Array Value} {below : List Frame} {meth : Method} {c : Code} {own : String} {cc : ByteArray} {nL : Nat} {m m1 : Mem} {H : Heap} {locs : List Loc} {cells slots : Nat} {Q : State → Prop} {pc : Nat} {ls : Array Slot} {rest : List Value}
theorem zr_irem (hx : p.tables.exec = Jvm.exec) (hb : c.code = cc) {x y : Int32} (hd : decode cc pc = .ok (.irem, 1)) (hne : ¬ y = 0) (k : W p l e R s mi args below meth c H locs cells slots Q (F0 mi (pc + 1) ls (.int (irem x y) :: rest))) : W p l e R s mi args below meth c H locs cells slots Q (F0 mi pc ls (.int y :: .int x :: rest)) := lv_irem hx hb hd hne k
/-- lastore in differ -/
theorem zas_23 (C : Cx X p s mi args c own cc nL) (hW : Wd X s m H locs) (hid : (23, 0) ∈ ids) {x : Int32} {y : Int64} (hx : vp_in x 5) (hm : m1 = updL m (3160 + 2 * x.toNatClampNeg) y) (hd : decode cc pc = .ok (.lastore, 1))
    (kk : ∀ (H1 : Heap) (locs1 : List Loc), Wd X s m1 H1 locs1 → W p l e R s mi args below meth c H1 locs1 cells slots Q (F0 mi (pc + 1) ls rest)) : W p l e R s mi args below meth c H locs cells slots Q (F0 mi pc ls (.long y :: .int x :: .ref (ad X 23 0) :: rest)) := by
  obtain ⟨q, hq0, hq⟩ := at_ids (X := X) (m := m) hid
  rw [zco_23] at hq
  have hlt := inb_lt hx
  refine va_last C.1 C.2.1 C.2.2.2.2.2.1.1 hW.1 (wcells_D C.2.2.2.2.2.2.2) hW.2 q 1 hq rfl hx hd (fun H1 locs1 hP _ hS => kk H1 locs1 ⟨?_, hS⟩)
  have hc : cellOf X m1 23 0 = .inl (cA X 1, 5, .inr (.inl (vp_updL (fun j => if j < 5 then comb (m (3160 + 2 * j)) (m (3160 + 2 * j + 1)) else 0) x.toNatClampNeg y))) := by
    rw [hm, zco_23]
    have e : (fun j => if j < 5 then comb (updL m (3160 + 2 * x.toNatClampNeg) y (3160 + 2 * j)) (updL m (3160 + 2 * x.toNatClampNeg) y (3160 + 2 * j + 1)) else 0) = vp_updL (fun j => if j < 5 then comb (m (3160 + 2 * j)) (m (3160 + 2 * j + 1)) else 0) x.toNatClampNeg y := by
      funext j
      unfold vp_updL updL upd
      by_cases hj : j = x.toNatClampNeg
      · subst hj
        simp [hlt, comb_split]
      · have h1 : ¬ 3160 + 2 * j = 3160 + 2 * x.toNatClampNeg := by omega
        have h2 : ¬ 3160 + 2 * j = 3160 + 2 * x.toNatClampNeg + 1 := by omega
        have h3 : ¬ 3160 + 2 * j + 1 = 3160 + 2 * x.toNatClampNeg := by omega
        have h4 : ¬ 3160 + 2 * j + 1 = 3160 + 2 * x.toNatClampNeg + 1 := by omega
        rw [if_neg h1, if_neg h2, if_neg h3, if_neg h4, if_neg hj]
    show aL X (updL m (3160 + 2 * x.toNatClampNeg) y) 3160 5 = _
    unfold aL
    rw [e]
  rw [wcells_set (m1 := m1) hq0 hc (fun z hz hne => by
    rw [hm]
    refine cell_congr z.1 z.2 (fun k k1 k2 => ?_)
    unfold updL
    have ha := apart_ids hid hz (Ne.symm hne)
    rw [lo_23, hi_23] at ha
    rw [pk_un (by omega), pk_un (by omega)])] at hP
  exact hP
theorem cp_gen (C : Cx X p s mi args c own cc nL) (hW : Wd X s m H locs) {r i j : Nat} {b : Nat → Nat} {n : Nat} (hi0 : (r, i) ∈ ids) (hi1 : (r, j) ∈ ids) (he : ∀ (m : Mem) (i : Nat), cellOf X m r i = aI X m 0 (b i) n) (hlo : ∀ i, lo r i = b i) (hhi : ∀ i, hi r i = b i + n) {idx : Nat} (hl : (.methodLink own idx arraycopyName : Cond) ∈ bigW) {sp dp k : Int32} (hk : okCp sp dp k n n = true) (hm : m1 = cpM m (b i) (b j) sp dp k) (hls : ls.size = nL) (hf : 1 ≤ R.frames) (hloc : (rest.map fun v => v.category).sum + (nativeFrameWords "java/lang/System" "arraycopy" 5 + 11) ≤ R.locals) (hd : decode cc pc = .ok (.invokestatic idx, 3)) (hst : (.static arraycopyName : Cond) ∈ bigW) (hin : (.initialized "java/lang/System" : Cond) ∈ bigW)
    (kk : ∀ (H1 : Heap) (locs1 : List Loc), Wd X s m1 H1 locs1 → W p l e R s mi args below meth c H1 locs1 cells slots Q (F0 mi (pc + 3) ls rest)) : W p l e R s mi args below meth c H locs cells slots Q (F0 mi pc ls (.int k :: .int dp :: .ref (ad X r j) :: .int sp :: .ref (ad X r i) :: rest)) := by
  obtain ⟨q0, hq00, hq0⟩ := at_ids (X := X) (m := m) hi0
  obtain ⟨q1, hq10, hq1⟩ := at_ids (X := X) (m := m) hi1
  rw [he] at hq0 hq1
  obtain ⟨h1, h2, h3, h4, h5⟩ := of_decide_eq_true hk
  refine va_copyi (ty := .int) C.1 C.2.1 (C.2.2.1.trans hls.symm) C.2.2.2.1 (C.2.2.2.2.1 _ hl) (va_Nw.use rfl C.2.2.2.2.2.1.2.2.2.2.2.2.2.2.2.2) (C.2.2.2.2.1 _ hst) (C.2.2.2.2.1 _ hin) C.2.2.2.2.2.1.1 hW.1 (wcells_D C.2.2.2.2.2.2.2) hW.2 q0 q1 0 0 hq0 hq1 rfl rfl rfl h1 h2 h3 h4 h5 (fun _ _ => rfl) hf hloc hd (fun H1 locs1 hP _ hS => kk H1 locs1 ⟨?_, hS⟩)
  have hc : cellOf X m1 r j = .inl (cA X 0, n, .inl (va_cpy (fun t => if t < n then m (b i + t) else 0) (fun t => if t < n then m (b j + t) else 0) sp.toNatClampNeg dp.toNatClampNeg k.toNatClampNeg)) := by
    rw [he, hm]
    have e : (fun t => if t < n then cpM m (b i) (b j) sp dp k (b j + t) else 0) = va_cpy (fun t => if t < n then m (b i + t) else 0) (fun t => if t < n then m (b j + t) else 0) sp.toNatClampNeg dp.toNatClampNeg k.toNatClampNeg := by
      funext t
      unfold va_cpy cpM
      dsimp only
      by_cases ht : dp.toNatClampNeg ≤ t ∧ t < dp.toNatClampNeg + k.toNatClampNeg
      · rw [if_pos ht, if_pos (show t < n by omega), if_pos (show b j + dp.toNatClampNeg ≤ b j + t ∧ b j + t < b j + dp.toNatClampNeg + k.toNatClampNeg by omega), if_pos (show sp.toNatClampNeg + (t - dp.toNatClampNeg) < n by omega)]
        congr 1
        omega
      · rw [if_neg ht, if_neg (show ¬ (b j + dp.toNatClampNeg ≤ b j + t ∧ b j + t < b j + dp.toNatClampNeg + k.toNatClampNeg) by omega)]
    unfold aI
    rw [e]
  rw [wcells_set (m1 := m1) hq10 hc (fun z hz hne => by
    rw [hm]
    refine cell_congr z.1 z.2 (fun w w1 w2 => ?_)
    have ha := apart_ids hi1 hz (Ne.symm hne)
    rw [hlo, hhi] at ha
    dsimp only at ha
    unfold cpM
    rw [if_neg (by omega)])] at hP
  exact hP
end HLP
theorem zcp_4 {X : TX} {p : Program} {l : Launch} {e : Env} {R : Room} {s : State} {mi : MethodId} {args : Array Value} {below : List Frame} {meth : Method} {c : Code} {own : String} {cc : ByteArray} {nL : Nat} {m m1 : Mem} {H : Heap} {locs : List Loc} {cells slots : Nat} {Q : State → Prop} {pc : Nat} {ls : Array Slot} {rest : List Value} (C : Cx X p s mi args c own cc nL) (hW : Wd X s m H locs) {i j : Nat} (hi0 : (4, i) ∈ ids) (hi1 : (4, j) ∈ ids) {idx : Nat} (hl : (.methodLink own idx arraycopyName : Cond) ∈ bigW) {sp dp k : Int32} (hk : okCp sp dp k 96 96 = true) (hm : m1 = cpM m (1100 + 96 * i) (1100 + 96 * j) sp dp k) (hls : ls.size = nL) (hf : 1 ≤ R.frames) (hloc : (rest.map fun v => v.category).sum + (nativeFrameWords "java/lang/System" "arraycopy" 5 + 11) ≤ R.locals) (hd : decode cc pc = .ok (.invokestatic idx, 3)) (kk : ∀ (H1 : Heap) (locs1 : List Loc), Wd X s m1 H1 locs1 → W p l e R s mi args below meth c H1 locs1 cells slots Q (F0 mi (pc + 3) ls rest)) : W p l e R s mi args below meth c H locs cells slots Q (F0 mi pc ls (.int k :: .int dp :: .ref (ad X 4 j) :: .int sp :: .ref (ad X 4 i) :: rest)) := cp_gen (b := fun i => 1100 + 96 * i) C hW hi0 hi1 (fun _ _ => zco_4) (fun _ => lo_4) (fun _ => hi_4) hl hk hm hls hf hloc hd w_892 w_78 kk
theorem zcp_16 {X : TX} {p : Program} {l : Launch} {e : Env} {R : Room} {s : State} {mi : MethodId} {args : Array Value} {below : List Frame} {meth : Method} {c : Code} {own : String} {cc : ByteArray} {nL : Nat} {m m1 : Mem} {H : Heap} {locs : List Loc} {cells slots : Nat} {Q : State → Prop} {pc : Nat} {ls : Array Slot} {rest : List Value} (C : Cx X p s mi args c own cc nL) (hW : Wd X s m H locs) {i j : Nat} (hi0 : (16, i) ∈ ids) (hi1 : (16, j) ∈ ids) {idx : Nat} (hl : (.methodLink own idx arraycopyName : Cond) ∈ bigW) {sp dp k : Int32} (hk : okCp sp dp k 24 24 = true) (hm : m1 = cpM m (500 + 24 * i) (500 + 24 * j) sp dp k) (hls : ls.size = nL) (hf : 1 ≤ R.frames) (hloc : (rest.map fun v => v.category).sum + (nativeFrameWords "java/lang/System" "arraycopy" 5 + 11) ≤ R.locals) (hd : decode cc pc = .ok (.invokestatic idx, 3)) (kk : ∀ (H1 : Heap) (locs1 : List Loc), Wd X s m1 H1 locs1 → W p l e R s mi args below meth c H1 locs1 cells slots Q (F0 mi (pc + 3) ls rest)) : W p l e R s mi args below meth c H locs cells slots Q (F0 mi pc ls (.int k :: .int dp :: .ref (ad X 16 j) :: .int sp :: .ref (ad X 16 i) :: rest)) := cp_gen (b := fun i => 500 + 24 * i) C hW hi0 hi1 (fun _ _ => zco_16) (fun _ => lo_16) (fun _ => hi_16) hl hk hm hls hf hloc hd w_892 w_78 kk
