/-! CONTEXT AND ROWS over the flat memory: one world, one list of words, rooms by depth -/
def tysA (X : TX) : List (ClassId × FieldType) := [(cA X 0, .int), (cA X 1, .long), (cA X 2, .boolean), (cA X 3, .char), (cA X 4, .object RX7), (cA X 5, .object RX5), (cA X 6, .object RX2), (cA X 7, .object RX3)]
def slen : List Nat := [3, 3, 4, 3, 2, 2]
def sbyt : List (List Int32) := [[111, 102, 102], [102, 101, 101], [102, 105, 110, 101], [115, 108, 104], [115, 99], [115, 108]]
def KK (X : TX) (U : State) : Prop := va_K (aD X) classes (tysA X) U ∧ va_Nw (.methodLinkNest RX7 9 yX8_within RX8) U ∧ va_Nw (.methodLinkNest RX4 108 yX8_within RX8) U ∧ va_Nw (.methodLinkNest RX1 147 yX8_within RX8) U ∧ vk_R RX1 91 "off" (adK X 0) U ∧ vk_R RX1 97 "fee" (adK X 1) U ∧ vk_R RX1 99 "fine" (adK X 2) U ∧ vk_R RX1 122 "slh" (adK X 3) U ∧ vk_R RX1 124 "sc" (adK X 4) U ∧ vk_R RX1 126 "sl" (adK X 5) U ∧ va_Nw (.native arraycopyName) U
def SS (X : TX) (U : State) (H : Heap) : Prop := vk_S 6 slen sbyt (adK X) (adV X) (ar X) U H ∧ va_Z "java/lang/String" "COMPACT_STRINGS" "Z" (.int 1) (ar X) U H ∧ va_Zq "jdk/internal/util/Preconditions" "SIOOBE_FORMATTER" "Ljava/util/function/BiFunction;" (ar X) U H
theorem native_warm {y : MethodName} {s U : State} (hW : s.WarmedH U.vm) (hZ : va_Nw (.native y) s) : va_Nw (.native y) U := word_at hW (Or.inl rfl) hZ
theorem KK.warm {X : TX} {s U : State} (hW : s.WarmedH U.vm) (h : KK X s) : KK X U := by
  obtain ⟨h1, h2, h3, h4, k0, k1, k2, k3, k4, k5, h5⟩ := h
  exact ⟨va_K.moved hW.alike h1, va_Nw.warmM hW h2, va_Nw.warmM hW h3, va_Nw.warmM hW h4, k0.warm hW, k1.warm hW, k2.warm hW, k3.warm hW, k4.warm hW, k5.warm hW, native_warm hW h5⟩
theorem KK.same {X : TX} {s U : State} (hv : U.vm = s.vm) (h : KK X s) : KK X U := by
  obtain ⟨h1, h2, h3, h4, k0, k1, k2, k3, k4, k5, h5⟩ := h
  exact ⟨va_K.moved (by rw [hv]; exact Vm.Alike.refl s.vm) h1, va_Nw.same rfl hv.symm h2, va_Nw.same rfl hv.symm h3, va_Nw.same rfl hv.symm h4, k0.same hv, k1.same hv, k2.same hv, k3.same hv, k4.same hv, k5.same hv, va_Nw.same rfl hv.symm h5⟩
theorem SS.moved {X : TX} {u U : State} {H : Heap} (hvm : u.vm.Alike U.vm) (h : SS X u H) : SS X U H := ⟨vk_S.moved hvm h.1, va_Z.moved hvm h.2.1, va_Zq.moved hvm h.2.2⟩
theorem SS.kept {X : TX} {U : State} {H H1 : Heap} (h : SS X U H) (hq : ∀ a : Nat, a < H.size → ¬ ar X a → H1[a]? = H[a]?) : SS X U H1 := ⟨vk_S.kept h.1 hq, va_Z.kept h.2.1 hq, va_Zq.kept h.2.2 hq⟩
def rmD (d : Nat) : Room := { frames := d, cells := 0, slots := 0, locals := 38 * d }
def wsM (y : MethodName) (b : ByteArray) (n : Nat) (r : Option FieldType) : List Cond := .code y b n r :: bigW
def PreW (X : TX) (m : Mem) (U : State) : Prop := va_P (aD X) classes (wcells X m) U.heap ∧ KK X U ∧ SS X U U.heap ∧ IJ X
def QI (X : TX) (r : Int32) (m1 : Mem) : Array Value → State → Outcome → State → Prop := va_Qi (S := Unit) (fun r' _ => r' = r) (fun _ t => va_P (aD X) classes (wcells X m1) t.heap) (ar X)
def QV (X : TX) (m1 : Mem) : Array Value → State → Outcome → State → Prop := va_Qv (S := Unit) (fun _ => True) (fun _ t => va_P (aD X) classes (wcells X m1) t.heap) (ar X)
def MetI (X : TX) (l : Launch) (y : MethodName) (b : ByteArray) (n : Nat) (ty : FieldType) (d : Nat) (av : List Value) (m : Mem) (r : Int32) (m1 : Mem) : Prop := Met l y (wsM y b n (some ty)) (rmD d) (va_Pc av (PreW X m)) (QI X r m1) 0 0 (ar X)
def MetV (X : TX) (l : Launch) (y : MethodName) (b : ByteArray) (n : Nat) (d : Nat) (av : List Value) (m : Mem) (m1 : Mem) : Prop := Met l y (wsM y b n none) (rmD d) (va_Pc av (PreW X m)) (QV X m1) 0 0 (ar X)
/-- what holds inside a method, whatever it has done so far -/
def Cx (X : TX) (p : Program) (s : State) (mi : MethodId) (args : Array Value) (c : Code) (own : String) (cc : ByteArray) (nL : Nat) : Prop :=
  p.tables.exec = Jvm.exec ∧ c.code = cc ∧ c.maxLocals = nL ∧ s.vm.findClass own = some mi.cls ∧ (∀ w ∈ bigW, w.before args s = true) ∧ KK X s ∧ SS X s s.heap ∧ IJ X
def Wd (X : TX) (s : State) (m : Mem) (H : Heap) (locs : List Loc) : Prop := va_P (aD X) classes (wcells X m) H ∧ va_S (ar X) s.heap H locs
def CalV (y : MethodName) (b : ByteArray) (n : Nat) (ret : Option FieldType) (C : String) (k : Nat) : Prop := (.instanceMethod y : Cond) ∈ bigW ∧ (.selects C y y : Cond) ∈ bigW ∧ (.initialized C : Cond) ∈ bigW ∧ (.code y b n ret : Cond) ∈ bigW ∧ (y.cls = C ∧ y.cls ≠ "java/lang/invoke/MethodHandle" ∧ y.cls ≠ "java/lang/invoke/VarHandle" ∧ (parseMethodDescriptor y.desc).map (fun d => d.parameters.length) = some k)
def CalS (y : MethodName) (b : ByteArray) (n : Nat) (ret : Option FieldType) (k : Nat) : Prop := (.static y : Cond) ∈ bigW ∧ (.initialized y.cls : Cond) ∈ bigW ∧ (.code y b n ret : Cond) ∈ bigW ∧ (y.cls ≠ "java/lang/invoke/MethodHandle" ∧ y.cls ≠ "java/lang/invoke/VarHandle" ∧ (parseMethodDescriptor y.desc).map (fun d => d.parameters.length) = some k)
theorem bigW_good {w : Cond} (h : w ∈ bigW) : w ∈ bigW ∧ ((w.onTables && w.keeps) = true ∨ ∃ ty, w = .arrayClass ty) := ⟨h, good_of_word (List.mem_filter.mp h).2⟩
theorem good_cons {w : Cond} {ws : List Cond} (h : w ∈ bigW) (g : GoodIn bigW ws) : GoodIn bigW (w :: ws) := by
  intro q hq
  rcases List.mem_cons.mp hq with rfl | hq
  · exact bigW_good h
  · exact g q hq
theorem good_bigW : GoodIn bigW bigW := fun _ h => bigW_good h
section ROWS
variable {X : TX} {p : Program} {l : Launch} {e : Env} {R : Room} {s : State} {mi : MethodId} {args : Array Value} {below : List Frame} {meth : Method} {c : Code} {own : String} {cc : ByteArray} {nL : Nat} {m m1 : Mem} {H : Heap} {locs : List Loc} {cells slots : Nat} {Q : State → Prop} {pc : Nat} {ls : Array Slot} {rest : List Value}
theorem Cx.ss (C : Cx X p s mi args c own cc nL) (hW : Wd X s m H locs) : SS X s H := SS.kept C.2.2.2.2.2.2.1 hW.2.2.1
theorem Cx.pre (C : Cx X p s mi args c own cc nL) (hW : Wd X s m H locs) {U : State} (hU : U.heap = H) (hw : s.WarmedH U.vm) : PreW X m U :=
  ⟨by rw [hU]; exact hW.1, KK.warm hw C.2.2.2.2.2.1, by rw [hU]; exact SS.moved hw.alike (Cx.ss C hW), C.2.2.2.2.2.2.2⟩
theorem pre_blind {av : List Value} : FrameBlind (va_Pc av (PreW X m)) := fun _ U _ _ q => ⟨q.1, q.2.1, KK.same (s := U) rfl q.2.2.1, SS.moved (Vm.Alike.refl U.vm) q.2.2.2.1, q.2.2.2.2⟩
/-- getfield -/
theorem zr_get (C : Cx X p s mi args c own cc nL) (hW : Wd X s m H locs) {r i : Nat} (hid : (r, i) ∈ ids) {ci : Nat} {fs : List Value} (he : cellOf X m r i = .inr (ci, fs)) {Cn : String} {T : u_T} {N : Nat} (hc : classes[ci]? = some (Cn, T, N)) (hin : ∀ w ∈ u_ws Cn T N, w ∈ bigW) {k : Nat} (hk : k < N) {idx : Nat} (hl : (.fieldLink own idx (T k).1 (T k).2.1 (T k).2.2.1 : Cond) ∈ bigW) {v : Value} (hv : fs[k]? = some v) (hd : decode cc pc = .ok (.getfield idx, 3))
    (kk : W p l e R s mi args below meth c H locs cells slots Q (F0 mi (pc + 3) ls (v :: rest))) : W p l e R s mi args below meth c H locs cells slots Q (F0 mi pc ls (.ref (ad X r i) :: rest)) := by
  obtain ⟨q, -, hq⟩ := at_ids (X := X) (m := m) hid
  rw [he] at hq
  exact va_get C.1 C.2.1 C.2.2.2.2.1 hin C.2.2.2.1 C.2.2.2.2.2.1.1 hW.1 q hq hc k hk (C.2.2.2.2.1 _ hl) (fun _ h => h) hv hd kk
/-- putfield of an int -/
theorem zr_put (C : Cx X p s mi args c own cc nL) (hW : Wd X s m H locs) {r i : Nat} (hid : (r, i) ∈ ids) {ci : Nat} {fs : List Value} (he : cellOf X m r i = .inr (ci, fs)) {Cn : String} {T : u_T} {N : Nat} (hc : classes[ci]? = some (Cn, T, N)) (hin : ∀ w ∈ u_ws Cn T N, w ∈ bigW) (ty0 : Nat → FieldType) (hty : ∀ k, k < N → parseFieldDescriptor (T k).2.2.1 = some (ty0 k)) (hnm : ∀ a, a < N → ∀ b, b < N → a ≠ b → (T a).2.1 ≠ (T b).2.1) {k : Nat} (hk : k < N) {idx : Nat} (hl : (.fieldLink own idx (T k).1 (T k).2.1 (T k).2.2.1 : Cond) ∈ bigW) (hfin : (T k).2.2.2 = false) {x : Int32} (hn : narrow (ty0 k) (.int x) = .int x) (hfit : fits (ty0 k) (.int x) = true) (hkl : k < fs.length) {a : Nat} (hm : m1 = upd m a x) (h1 : lo r i ≤ a) (h2 : a < hi r i) (he1 : cellOf X m1 r i = .inr (ci, fs.set k (.int x))) (hd : decode cc pc = .ok (.putfield idx, 3))
    (kk : ∀ (H1 : Heap) (locs1 : List Loc), Wd X s m1 H1 locs1 → W p l e R s mi args below meth c H1 locs1 cells slots Q (F0 mi (pc + 3) ls rest)) : W p l e R s mi args below meth c H locs cells slots Q (F0 mi pc ls (.int x :: .ref (ad X r i) :: rest)) := by
  obtain ⟨q, hq0, hq⟩ := at_ids (X := X) (m := m) hid
  rw [he] at hq
  refine va_put (ty := ty0 k) C.1 C.2.1 C.2.2.2.2.1 hin ty0 hty hnm C.2.2.2.1 C.2.2.2.2.2.1.1 hW.1 (wcells_D C.2.2.2.2.2.2.2) hW.2 q hq hc k hk (C.2.2.2.2.1 _ hl) (fun _ h => h) hfin (hty k hk) hn hfit hkl hd (fun H1 locs1 hP _ hS => kk H1 locs1 ⟨?_, hS⟩)
  rw [wcells_set (m1 := m1) hq0 he1 (fun b hb hne => by rw [hm]; exact cell_out hid hb hne h1 h2)] at hP
  exact hP
theorem inb_lt {x : Int32} {n : Nat} (h : vp_in x n) : x.toNatClampNeg < n := by
  rcases Nat.lt_or_ge x.toNatClampNeg n with q | q
  · exact q
  · exact absurd (Or.inr q) h
/-- iaload, baload, caload -/
theorem zr_iald (C : Cx X p s mi args c own cc nL) (hW : Wd X s m H locs) {r i b n : Nat} (hid : (r, i) ∈ ids) (he : cellOf X m r i = aI X m 0 b n) {x : Int32} (hx : vp_in x n) (hd : decode cc pc = .ok (.iaload, 1))
    (kk : W p l e R s mi args below meth c H locs cells slots Q (F0 mi (pc + 1) ls (.int (m (b + x.toNatClampNeg)) :: rest))) : W p l e R s mi args below meth c H locs cells slots Q (F0 mi pc ls (.int x :: .ref (ad X r i) :: rest)) := by
  obtain ⟨q, -, hq⟩ := at_ids (X := X) (m := m) hid
  rw [he] at hq
  refine va_iald C.1 C.2.1 C.2.2.2.2.2.1.1 hW.1 q 0 hq rfl hx hd ?_
  rw [if_pos (inb_lt hx)]
  exact kk
theorem zr_zald (C : Cx X p s mi args c own cc nL) (hW : Wd X s m H locs) {r i b n : Nat} (hid : (r, i) ∈ ids) (he : cellOf X m r i = aI X m 2 b n) {x : Int32} (hx : vp_in x n) (hd : decode cc pc = .ok (.baload, 1))
    (kk : W p l e R s mi args below meth c H locs cells slots Q (F0 mi (pc + 1) ls (.int (m (b + x.toNatClampNeg)) :: rest))) : W p l e R s mi args below meth c H locs cells slots Q (F0 mi pc ls (.int x :: .ref (ad X r i) :: rest)) := by
  obtain ⟨q, -, hq⟩ := at_ids (X := X) (m := m) hid
  rw [he] at hq
  refine va_zald C.1 C.2.1 C.2.2.2.2.2.1.1 hW.1 q 2 hq rfl hx hd ?_
  rw [if_pos (inb_lt hx)]
  exact kk
theorem zr_cald (C : Cx X p s mi args c own cc nL) (hW : Wd X s m H locs) {r i b n : Nat} (hid : (r, i) ∈ ids) (he : cellOf X m r i = aI X m 3 b n) {x : Int32} (hx : vp_in x n) (hd : decode cc pc = .ok (.caload, 1))
    (kk : W p l e R s mi args below meth c H locs cells slots Q (F0 mi (pc + 1) ls (.int (m (b + x.toNatClampNeg)) :: rest))) : W p l e R s mi args below meth c H locs cells slots Q (F0 mi pc ls (.int x :: .ref (ad X r i) :: rest)) := by
  obtain ⟨q, -, hq⟩ := at_ids (X := X) (m := m) hid
  rw [he] at hq
  refine va_cald C.1 C.2.1 C.2.2.2.2.2.1.1 hW.1 q 3 hq rfl hx hd ?_
  rw [if_pos (inb_lt hx)]
  exact kk
theorem zr_lald (C : Cx X p s mi args c own cc nL) (hW : Wd X s m H locs) {r i b n : Nat} (hid : (r, i) ∈ ids) (he : cellOf X m r i = aL X m b n) {x : Int32} (hx : vp_in x n) (hd : decode cc pc = .ok (.laload, 1))
    (kk : W p l e R s mi args below meth c H locs cells slots Q (F0 mi (pc + 1) ls (.long (comb (m (b + 2 * x.toNatClampNeg)) (m (b + 2 * x.toNatClampNeg + 1))) :: rest))) : W p l e R s mi args below meth c H locs cells slots Q (F0 mi pc ls (.int x :: .ref (ad X r i) :: rest)) := by
  obtain ⟨q, -, hq⟩ := at_ids (X := X) (m := m) hid
  rw [he] at hq
  refine va_lald C.1 C.2.1 C.2.2.2.2.2.1.1 hW.1 q 1 hq rfl hx hd ?_
  rw [if_pos (inb_lt hx)]
  exact kk
/-- aaload -/
theorem zr_aald (C : Cx X p s mi args c own cc nL) (hW : Wd X s m H locs) {r i k n er : Nat} {g : Nat → Nat} (hid : (r, i) ∈ ids) (he : cellOf X m r i = aR X k n er g) {Cn : String} (ht : (tysA X)[k]? = some (cA X k, .object Cn)) {x : Int32} (hx : vp_in x n) (hd : decode cc pc = .ok (.aaload, 1))
    (kk : W p l e R s mi args below meth c H locs cells slots Q (F0 mi (pc + 1) ls (.ref (ad X er (g x.toNatClampNeg)) :: rest))) : W p l e R s mi args below meth c H locs cells slots Q (F0 mi pc ls (.int x :: .ref (ad X r i) :: rest)) := by
  obtain ⟨q, -, hq⟩ := at_ids (X := X) (m := m) hid
  rw [he] at hq
  exact va_aldq C.1 C.2.1 C.2.2.2.2.2.1.1 hW.1 q k hq ht hx hd kk
theorem aI_upd {c b n k : Nat} {x : Int32} (hk : k < n) : aI X (upd m (b + k) x) c b n = .inl (cA X c, n, .inl (upd (fun j => if j < n then m (b + j) else 0) k x)) := by
  have e : (fun j => if j < n then upd m (b + k) x (b + j) else 0) = upd (fun j => if j < n then m (b + j) else 0) k x := by
    funext j
    unfold upd
    by_cases hj : j = k
    · subst hj; simp [hk]
    · simp [hj]
  unfold aI
  rw [e]
theorem aI_lohi {r i c b n k : Nat} (hk : k < n) (hl : lo r i = b) (hh : hi r i = b + n) : lo r i ≤ b + k ∧ b + k < hi r i := by omega
/-- iastore -/
theorem zr_iast (C : Cx X p s mi args c own cc nL) (hW : Wd X s m H locs) {r i b n : Nat} (hid : (r, i) ∈ ids) (he : ∀ m : Mem, cellOf X m r i = aI X m 0 b n) (hl : lo r i = b) (hh : hi r i = b + n) {x y : Int32} (hx : vp_in x n) (hm : m1 = upd m (b + x.toNatClampNeg) y) (hd : decode cc pc = .ok (.iastore, 1))
    (kk : ∀ (H1 : Heap) (locs1 : List Loc), Wd X s m1 H1 locs1 → W p l e R s mi args below meth c H1 locs1 cells slots Q (F0 mi (pc + 1) ls rest)) : W p l e R s mi args below meth c H locs cells slots Q (F0 mi pc ls (.int y :: .int x :: .ref (ad X r i) :: rest)) := by
  obtain ⟨q, hq0, hq⟩ := at_ids (X := X) (m := m) hid
  rw [he] at hq
  have hlt := inb_lt hx
  refine va_iast C.1 C.2.1 C.2.2.2.2.2.1.1 hW.1 (wcells_D C.2.2.2.2.2.2.2) hW.2 q 0 hq rfl hx hd (fun H1 locs1 hP _ hS => kk H1 locs1 ⟨?_, hS⟩)
  have hb := aI_lohi (c := 0) hlt hl hh
  rw [wcells_set (m1 := m1) hq0 (by rw [he, hm, aI_upd hlt]) (fun z hz hne => by rw [hm]; exact cell_out hid hz hne hb.1 hb.2)] at hP
  exact hP
theorem zr_zast (C : Cx X p s mi args c own cc nL) (hW : Wd X s m H locs) {r i b n : Nat} (hid : (r, i) ∈ ids) (he : ∀ m : Mem, cellOf X m r i = aI X m 2 b n) (hl : lo r i = b) (hh : hi r i = b + n) {x y : Int32} (hx : vp_in x n) (hm : m1 = upd m (b + x.toNatClampNeg) (vp_nar .boolean y)) (hd : decode cc pc = .ok (.bastore, 1))
    (kk : ∀ (H1 : Heap) (locs1 : List Loc), Wd X s m1 H1 locs1 → W p l e R s mi args below meth c H1 locs1 cells slots Q (F0 mi (pc + 1) ls rest)) : W p l e R s mi args below meth c H locs cells slots Q (F0 mi pc ls (.int y :: .int x :: .ref (ad X r i) :: rest)) := by
  obtain ⟨q, hq0, hq⟩ := at_ids (X := X) (m := m) hid
  rw [he] at hq
  have hlt := inb_lt hx
  refine va_zast C.1 C.2.1 C.2.2.2.2.2.1.1 hW.1 (wcells_D C.2.2.2.2.2.2.2) hW.2 q 2 hq rfl hx hd (fun H1 locs1 hP _ hS => kk H1 locs1 ⟨?_, hS⟩)
  have hb := aI_lohi (c := 2) hlt hl hh
  rw [wcells_set (m1 := m1) hq0 (by rw [he, hm, aI_upd hlt]) (fun z hz hne => by rw [hm]; exact cell_out hid hz hne hb.1 hb.2)] at hP
  exact hP
/-- calls -/
theorem zr_recv (C : Cx X p s mi args c own cc nL) (hW : Wd X s m H locs) {r i : Nat} (hid : (r, i) ∈ ids) {ci : Nat} {fs : List Value} (he : cellOf X m r i = .inr (ci, fs)) {q : vw_C} (hc : classes[ci]? = some q) : ∃ cell : Cell, H[ad X r i]? = some cell ∧ cell.vm.isStatics = false ∧ s.vm.findClass q.1 = some cell.cls := by
  obtain ⟨k, -, hk⟩ := at_ids (X := X) (m := m) hid
  rw [he] at hk
  exact va_recv C.2.2.2.2.2.1.1 hW.1 hc hk
theorem zr_cVI (C : Cx X p s mi args c own cc nL) (hW : Wd X s m H locs) {y : MethodName} {bts : ByteArray} {mL k dz idx o : Nat} {ty : FieldType} {Cn : String} {As : List Value} {r1 : Int32} (hM : MetI X l y bts mL ty dz (.ref o :: As) m r1 m1) (hk : CalV y bts mL (some ty) Cn k) (hrecv : ∃ cell : Cell, H[o]? = some cell ∧ cell.vm.isStatics = false ∧ s.vm.findClass Cn = some cell.cls) (hl : (.methodLink own idx y : Cond) ∈ bigW) (hR : dz + 1 ≤ R.frames ∧ 8 + (mL + 11) + 38 * dz ≤ R.locals) (hcs : cells ≤ R.cells ∧ slots ≤ R.slots) (hn : As.length = k) (hls : ls.size = nL) {st : List Value} (hst : st = As.reverse ++ .ref o :: rest) (hr : (rest.map fun v => v.category).sum ≤ 8) (hd : decode cc pc = .ok (.invokevirtual idx, 3))
    (kk : ∀ (H1 : Heap) (locs1 : List Loc), Wd X s m1 H1 locs1 → W p l e R s mi args below meth c H1 locs1 cells slots Q (F0 mi (pc + 3) ls (.int r1 :: rest))) : W p l e R s mi args below meth c H locs cells slots Q (F0 mi pc ls st) := by
  have hG : GoodIn bigW (wsV own idx Cn y (wsM y bts mL (some ty))) := good_cons hl (good_cons hk.1 (good_cons hk.2.1 (good_cons hk.2.2.1 (good_cons hk.2.2.2.1 good_bigW))))
  have cw := cwV (R := R) k C.2.2.2.2.1 hG rfl (rm := rmD dz) (mc := 0) (ms := 0) rfl rfl hk.2.2.2.2 hR
  refine va_calli (va_runV (As := As) (rest := rest) ⟨C.1, C.2.1, C.2.2.1, C.2.2.2.1, C.2.2.2.2.1⟩ hM cw ⟨pre_blind, hrecv, fun U hU hw => ⟨rfl, Cx.pre C hW hU hw⟩⟩ rfl hn hls hst (lv_room hr) hd hcs) hW.2 (fun q _ h => h) (fun q h => h) (fun r u t H1 locs1 ht hvm hp hb hz hk1 hS => ?_)
  subst hp
  exact kk H1 locs1 ⟨by rw [ht] at hb; exact hb, hS⟩
theorem zr_cVV (C : Cx X p s mi args c own cc nL) (hW : Wd X s m H locs) {y : MethodName} {bts : ByteArray} {mL k dz idx o : Nat} {Cn : String} {As : List Value} (hM : MetV X l y bts mL dz (.ref o :: As) m m1) (hk : CalV y bts mL none Cn k) (hrecv : ∃ cell : Cell, H[o]? = some cell ∧ cell.vm.isStatics = false ∧ s.vm.findClass Cn = some cell.cls) (hl : (.methodLink own idx y : Cond) ∈ bigW) (hR : dz + 1 ≤ R.frames ∧ 8 + (mL + 11) + 38 * dz ≤ R.locals) (hcs : cells ≤ R.cells ∧ slots ≤ R.slots) (hn : As.length = k) (hls : ls.size = nL) {st : List Value} (hst : st = As.reverse ++ .ref o :: rest) (hr : (rest.map fun v => v.category).sum ≤ 8) (hd : decode cc pc = .ok (.invokevirtual idx, 3))
    (kk : ∀ (H1 : Heap) (locs1 : List Loc), Wd X s m1 H1 locs1 → W p l e R s mi args below meth c H1 locs1 cells slots Q (F0 mi (pc + 3) ls rest)) : W p l e R s mi args below meth c H locs cells slots Q (F0 mi pc ls st) := by
  have hG : GoodIn bigW (wsV own idx Cn y (wsM y bts mL none)) := good_cons hl (good_cons hk.1 (good_cons hk.2.1 (good_cons hk.2.2.1 (good_cons hk.2.2.2.1 good_bigW))))
  have cw := cwV (R := R) k C.2.2.2.2.1 hG rfl (rm := rmD dz) (mc := 0) (ms := 0) rfl rfl hk.2.2.2.2 hR
  refine va_callv (va_runV (As := As) (rest := rest) ⟨C.1, C.2.1, C.2.2.1, C.2.2.2.1, C.2.2.2.2.1⟩ hM cw ⟨pre_blind, hrecv, fun U hU hw => ⟨rfl, Cx.pre C hW hU hw⟩⟩ rfl hn hls hst (lv_room hr) hd hcs) hW.2 (fun q _ h => h) (fun q h => h) (fun u t H1 locs1 ht hvm hp hb hz hk1 hS => ?_)
  exact kk H1 locs1 ⟨by rw [ht] at hb; exact hb, hS⟩
theorem zr_cSI (C : Cx X p s mi args c own cc nL) (hW : Wd X s m H locs) {y : MethodName} {bts : ByteArray} {mL k dz idx : Nat} {ty : FieldType} {As : List Value} {r1 : Int32} (hM : MetI X l y bts mL ty dz As m r1 m1) (hk : CalS y bts mL (some ty) k) (hl : (.methodLink own idx y : Cond) ∈ bigW) (hR : dz + 1 ≤ R.frames ∧ 8 + (mL + 11) + 38 * dz ≤ R.locals) (hcs : cells ≤ R.cells ∧ slots ≤ R.slots) (hn : As.length = k) (hls : ls.size = nL) {st : List Value} (hst : st = As.reverse ++ rest) (hr : (rest.map fun v => v.category).sum ≤ 8) (hd : decode cc pc = .ok (.invokestatic idx, 3))
    (kk : ∀ (H1 : Heap) (locs1 : List Loc), Wd X s m1 H1 locs1 → W p l e R s mi args below meth c H1 locs1 cells slots Q (F0 mi (pc + 3) ls (.int r1 :: rest))) : W p l e R s mi args below meth c H locs cells slots Q (F0 mi pc ls st) := by
  have hG : GoodIn bigW (va_wsS own idx y (wsM y bts mL (some ty))) := good_cons hl (good_cons hk.1 (good_cons hk.2.1 (good_cons hk.2.2.1 good_bigW)))
  have cw := va_cwS (R := R) k C.2.2.2.2.1 hG rfl (rm := rmD dz) (mc := 0) (ms := 0) rfl rfl hk.2.2.2 hR
  refine va_calli (va_runS (As := As) (rest := rest) ⟨C.1, C.2.1, C.2.2.1, C.2.2.2.1, C.2.2.2.2.1⟩ hM cw ⟨pre_blind, fun U hU hw => ⟨rfl, Cx.pre C hW hU hw⟩⟩ rfl hn hls hst (lv_room hr) hd hcs) hW.2 (fun q _ h => h) (fun q h => h) (fun r u t H1 locs1 ht hvm hp hb hz hk1 hS => ?_)
  subst hp
  exact kk H1 locs1 ⟨by rw [ht] at hb; exact hb, hS⟩
theorem zr_cSV (C : Cx X p s mi args c own cc nL) (hW : Wd X s m H locs) {y : MethodName} {bts : ByteArray} {mL k dz idx : Nat} {As : List Value} (hM : MetV X l y bts mL dz As m m1) (hk : CalS y bts mL none k) (hl : (.methodLink own idx y : Cond) ∈ bigW) (hR : dz + 1 ≤ R.frames ∧ 8 + (mL + 11) + 38 * dz ≤ R.locals) (hcs : cells ≤ R.cells ∧ slots ≤ R.slots) (hn : As.length = k) (hls : ls.size = nL) {st : List Value} (hst : st = As.reverse ++ rest) (hr : (rest.map fun v => v.category).sum ≤ 8) (hd : decode cc pc = .ok (.invokestatic idx, 3))
    (kk : ∀ (H1 : Heap) (locs1 : List Loc), Wd X s m1 H1 locs1 → W p l e R s mi args below meth c H1 locs1 cells slots Q (F0 mi (pc + 3) ls rest)) : W p l e R s mi args below meth c H locs cells slots Q (F0 mi pc ls st) := by
  have hG : GoodIn bigW (va_wsS own idx y (wsM y bts mL none)) := good_cons hl (good_cons hk.1 (good_cons hk.2.1 (good_cons hk.2.2.1 good_bigW)))
  have cw := va_cwS (R := R) k C.2.2.2.2.1 hG rfl (rm := rmD dz) (mc := 0) (ms := 0) rfl rfl hk.2.2.2 hR
  refine va_callv (va_runS (As := As) (rest := rest) ⟨C.1, C.2.1, C.2.2.1, C.2.2.2.1, C.2.2.2.2.1⟩ hM cw ⟨pre_blind, fun U hU hw => ⟨rfl, Cx.pre C hW hU hw⟩⟩ rfl hn hls hst (lv_room hr) hd hcs) hW.2 (fun q _ h => h) (fun q h => h) (fun u t H1 locs1 ht hvm hp hb hz hk1 hS => ?_)
  exact kk H1 locs1 ⟨by rw [ht] at hb; exact hb, hS⟩
/-- a private static method of a nest mate -/
theorem zr_cNI (C : Cx X p s mi args c own cc nL) (hW : Wd X s m H locs) {y : MethodName} {bts : ByteArray} {mL k dz idx : Nat} {ty : FieldType} {As : List Value} {r1 : Int32} {host : String} (hM : MetI X l y bts mL ty dz As m r1 m1) (hk : CalS y bts mL (some ty) k) (hl : va_Nw (.methodLinkNest own idx y host) s) (hR : dz + 1 ≤ R.frames ∧ 8 + (mL + 11) + 38 * dz ≤ R.locals) (hcs : cells ≤ R.cells ∧ slots ≤ R.slots) (hn : As.length = k) (hls : ls.size = nL) {st : List Value} (hst : st = As.reverse ++ rest) (hr : (rest.map fun v => v.category).sum ≤ 8) (hd : decode cc pc = .ok (.invokestatic idx, 3))
    (kk : ∀ (H1 : Heap) (locs1 : List Loc), Wd X s m1 H1 locs1 → W p l e R s mi args below meth c H1 locs1 cells slots Q (F0 mi (pc + 3) ls (.int r1 :: rest))) : W p l e R s mi args below meth c H locs cells slots Q (F0 mi pc ls st) := by
  have hG : GoodIn bigW (wsM y bts mL (some ty)) := good_cons hk.2.2.1 good_bigW
  have cw := va_cnB (R := R) k C.2.2.2.2.1 hG rfl (rm := rmD dz) (mc := 0) (ms := 0) rfl rfl hl (C.2.2.2.2.1 _ hk.2.1) hk.2.2.2 hR
  refine va_calli (va_runSN (As := As) (rest := rest) ⟨C.1, C.2.1, C.2.2.1, C.2.2.2.1, C.2.2.2.2.1⟩ hM ⟨cw, C.2.2.2.2.1 _ hk.1, trivial⟩ ⟨pre_blind, fun U hU hw => ⟨rfl, Cx.pre C hW hU hw⟩⟩ rfl hn hls hst (lv_room hr) hd hcs) hW.2 (fun q _ h => h) (fun q h => h) (fun r u t H1 locs1 ht hvm hp hb hz hk1 hS => ?_)
  subst hp
  exact kk H1 locs1 ⟨by rw [ht] at hb; exact hb, hS⟩
end ROWS
