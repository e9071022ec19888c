/-! CONSTRUCTORS: new cells at numbered addresses -/
abbrev CD : Type := va_G × (Nat → ClassId)
def tysC (Y : CD) : List (ClassId × FieldType) := [(Y.2 0, .int), (Y.2 1, .long), (Y.2 2, .boolean), (Y.2 3, .char), (Y.2 4, .object RX7), (Y.2 5, .object RX5), (Y.2 6, .object RX2), (Y.2 7, .object RX3)]
def CK (Y : CD) (U : State) : Prop := va_K Y.1 classes (tysC Y) U ∧ (va_AO RX7 U ∧ va_AO RX5 U ∧ va_AO RX2 U ∧ va_AO RX3 U) ∧ va_Nw (.methodLinkNest RX8 40 yX0_init RX8) U ∧ va_Nw (.methodLinkNest RX8 51 yX2_init RX8) U ∧ va_Nw (.methodLinkNest RX8 58 yX3_init RX8) U ∧ va_Nw (.methodLinkNest RX1 17 yX5_init RX8) U ∧ va_Nw (.methodLinkNest RX6 17 yX5_init RX8) U ∧ va_Nw (.methodLinkNest RX3 11 yX7_init RX8) U ∧ va_Nw (.methodLinkNest RX3 20 yX2_init RX8) U ∧ va_Nw (.methodLinkNest RX4 17 yX7_init RX8) U
theorem CK.warm {Y : CD} {s U : State} (hW : s.WarmedH U.vm) (h : CK Y s) : CK Y U := by
  obtain ⟨h1, ⟨a1, a2, a3, a4⟩, b1, b2, b3, b4, b5, b6, b7, b8⟩ := h
  exact ⟨va_K.moved hW.alike h1, ⟨va_AO.moved hW.alike a1, va_AO.moved hW.alike a2, va_AO.moved hW.alike a3, va_AO.moved hW.alike a4⟩, va_Nw.warmM hW b1, va_Nw.warmM hW b2, va_Nw.warmM hW b3, va_Nw.warmM hW b4, va_Nw.warmM hW b5, va_Nw.warmM hW b6, va_Nw.warmM hW b7, va_Nw.warmM hW b8⟩
theorem CK.same {Y : CD} {s U : State} (hv : U.vm = s.vm) (h : CK Y s) : CK Y U := by
  have al : s.vm.Alike U.vm := by rw [hv]; exact Vm.Alike.refl s.vm
  obtain ⟨h1, ⟨a1, a2, a3, a4⟩, b1, b2, b3, b4, b5, b6, b7, b8⟩ := h
  exact ⟨va_K.moved al h1, ⟨va_AO.moved al a1, va_AO.moved al a2, va_AO.moved al a3, va_AO.moved al a4⟩, va_Nw.same rfl hv.symm b1, va_Nw.same rfl hv.symm b2, va_Nw.same rfl hv.symm b3, va_Nw.same rfl hv.symm b4, va_Nw.same rfl hv.symm b5, va_Nw.same rfl hv.symm b6, va_Nw.same rfl hv.symm b7, va_Nw.same rfl hv.symm b8⟩
def NW (Y : CD) (z : Nat) (es : List va_E) (H : Heap) : Prop := H.size = z + es.length ∧ ∀ (k : Nat) (e : va_E), es[k]? = some e → va_at Y.1 classes (z + k, e) H
/-- what has been made since s, and this object -/
def WS (Y : CD) (s : State) (th : va_W) (es : List va_E) (H : Heap) (locs : List Loc) : Prop := (∀ x ∈ th, x.1 < s.heap.size ∧ va_at Y.1 classes x H) ∧ NW Y s.heap.size es H ∧ va_S (fun q => q ∈ th.map Prod.fst ∨ s.heap.size ≤ q) s.heap H locs
def CC (Y : CD) (p : Program) (s : State) (mi : MethodId) (args : Array Value) (c : Code) (own : String) (cc : ByteArray) (nL : Nat) : Prop :=
  p.tables.exec = Jvm.exec ∧ c.code = cc ∧ c.maxLocals = nL ∧ s.vm.findClass own = some mi.cls ∧ (∀ w ∈ bigW, w.before args s = true) ∧ CK Y s
def MetC (Y : CD) (l : Launch) (y : MethodName) (bts : ByteArray) (mL d K S : Nat) (a : Nat) (As : List Value) (e0 e1 : va_E) (z : Nat) (es : List va_E) : Prop := Met l y (wsM y bts mL none) { frames := d, cells := K, slots := S, locals := 38 * d } (va_Pc (.ref a :: As) (fun U => U.heap.size = z ∧ a < z ∧ va_at Y.1 classes (a, e0) U.heap ∧ CK Y U)) (va_Qv (S := Unit) (fun _ => True) (fun _ t => va_at Y.1 classes (a, e1) t.heap ∧ NW Y z es t.heap) (fun q => q = a ∨ z ≤ q)) K S (fun q => q = a ∨ z ≤ q)
section MADE
variable {Y : CD} {p : Program} {l : Launch} {e : Env} {R : Room} {s : State} {mi : MethodId} {args : Array Value} {below : List Frame} {meth : Method} {c : Code} {own : String} {cc : ByteArray} {nL : Nat} {H : Heap} {locs : List Loc} {cells slots : Nat} {Q : State → Prop} {pc : Nat} {ls : Array Slot} {rest : List Value} {th : va_W} {es : List va_E} {a : Nat}
theorem WS.put {e0 e1 : va_E} {H1 : Heap} {k : Nat} (hW : WS Y s [(a, e0)] es H locs) (h1 : va_at Y.1 classes (a, e1) H1) (hs : H1.size = H.size) (ho : ∀ q, q ≠ a → H1[q]? = H[q]?) : WS Y s [(a, e1)] es H1 (locs ++ [⟨a, k⟩]) := by
  obtain ⟨w1, ⟨w2, w3⟩, w4, w5, w6⟩ := hW
  have ha := (w1 _ List.mem_cons_self).1
  refine ⟨fun x hx => ?_, ⟨by rw [hs]; exact w2, fun k e he => (w3 k e he).kept (ho _ (by show s.heap.size + k ≠ a; have : a < s.heap.size := ha; omega))⟩, by rw [hs]; exact w4, fun q q1 q2 => ?_, fun L hL => ?_⟩
  · rcases List.mem_cons.mp hx with rfl | hx
    · exact ⟨ha, h1⟩
    · exact absurd hx List.not_mem_nil
  · rw [ho q (fun z => q2 (Or.inl (by rw [z]; exact List.mem_cons_self)))]
    exact w5 q q1 q2
  · rcases List.mem_append.mp hL with hL | hL
    · exact w6 L hL
    · rcases List.mem_cons.mp hL with rfl | hL
      · exact Or.inl List.mem_cons_self
      · exact absurd hL List.not_mem_nil
theorem WS.set {e0 e1 : va_E} {H1 : Heap} {k j : Nat} (hW : WS Y s th es H locs) (hk : es[k]? = some e0) (h1 : va_at Y.1 classes (s.heap.size + k, e1) H1) (hs : H1.size = H.size) (ho : ∀ q, q ≠ s.heap.size + k → H1[q]? = H[q]?) : WS Y s th (es.set k e1) H1 (locs ++ [⟨s.heap.size + k, j⟩]) := by
  obtain ⟨w1, ⟨w2, w3⟩, w4, w5, w6⟩ := hW
  have hl := (List.getElem?_eq_some_iff.mp hk).1
  refine ⟨fun x hx => ⟨(w1 x hx).1, (w1 x hx).2.kept (ho _ (by have := (w1 x hx).1; omega))⟩, ⟨by rw [hs, List.length_set]; exact w2, fun i e he => ?_⟩, by rw [hs]; exact w4, fun q q1 q2 => ?_, fun L hL => ?_⟩
  · by_cases hi : i = k
    · subst hi
      rw [List.getElem?_set_self hl] at he
      cases he
      exact h1
    · rw [List.getElem?_set_ne (Ne.symm hi)] at he
      exact (w3 i e he).kept (ho _ (by show s.heap.size + i ≠ s.heap.size + k; omega))
  · rw [ho q (by omega)]
    exact w5 q q1 q2
  · rcases List.mem_append.mp hL with hL | hL
    · exact w6 L hL
    · rcases List.mem_cons.mp hL with rfl | hL
      · exact Or.inr (Nat.le_add_right _ _)
      · exact absurd hL List.not_mem_nil
theorem WS.push {e1 : va_E} {H1 : Heap} (hW : WS Y s th es H locs) (h1 : va_at Y.1 classes (s.heap.size + es.length, e1) H1) (hs : H1.size = H.size + 1) (ho : ∀ q, q < H.size → H1[q]? = H[q]?) : WS Y s th (es ++ [e1]) H1 locs := by
  obtain ⟨w1, ⟨w2, w3⟩, w4, w5, w6⟩ := hW
  refine ⟨fun x hx => ⟨(w1 x hx).1, (w1 x hx).2.kept (ho _ (w1 x hx).2.lt)⟩, ⟨by rw [hs, List.length_append, w2]; rfl, fun i e he => ?_⟩, by rw [hs]; omega, fun q q1 q2 => ?_, w6⟩
  · by_cases hi : i < es.length
    · rw [List.getElem?_append_left hi] at he
      exact (w3 i e he).kept (ho _ (w3 i e he).lt)
    · rw [List.getElem?_append_right (by omega)] at he
      have hz : i - es.length < 1 := (List.getElem?_eq_some_iff.mp he).1
      have hi : i = es.length := by omega
      subst hi
      rw [Nat.sub_self] at he
      cases he
      exact h1
  · rw [ho q (by omega)]
    exact w5 q q1 q2
theorem WS.called {e0 e1 : va_E} {es1 : List va_E} {H1 : Heap} {locs1 : List Loc} {k : Nat} (hW : WS Y s th es H locs) (hk : es[k]? = some e0) (h1 : va_at Y.1 classes (s.heap.size + k, e1) H1) (h2 : NW Y (s.heap.size + es.length) es1 H1) (ho : ∀ q, q < H.size → ¬ (q = s.heap.size + k ∨ s.heap.size + es.length ≤ q) → H1[q]? = H[q]?) (hS : va_S (fun q => q ∈ th.map Prod.fst ∨ s.heap.size ≤ q) s.heap H1 locs1) : WS Y s th (es.set k e1 ++ es1) H1 locs1 := by
  obtain ⟨w1, ⟨w2, w3⟩, w4, w5, w6⟩ := hW
  have hl := (List.getElem?_eq_some_iff.mp hk).1
  have hll : (es.set k e1).length = es.length := List.length_set
  refine ⟨fun x hx => ⟨(w1 x hx).1, (w1 x hx).2.kept (ho _ (w1 x hx).2.lt (by have := (w1 x hx).1; omega))⟩, ⟨by rw [h2.1, List.length_append, hll]; omega, fun i e he => ?_⟩, hS⟩
  by_cases hi : i < es.length
  · rw [List.getElem?_append_left (by rw [hll]; exact hi)] at he
    by_cases hik : i = k
    · subst hik
      rw [List.getElem?_set_self hl] at he
      cases he
      exact h1
    · rw [List.getElem?_set_ne (Ne.symm hik)] at he
      exact (w3 i e he).kept (ho _ (w3 i e he).lt (by show ¬ (s.heap.size + i = s.heap.size + k ∨ s.heap.size + es.length ≤ s.heap.size + i); omega))
  · rw [List.getElem?_append_right (by rw [hll]; omega), hll] at he
    have := h2.2 _ e he
    rw [show s.heap.size + es.length + (i - es.length) = s.heap.size + i by omega] at this
    exact this
/-- putfield of this object, in its constructor -/
theorem sn_put (C : CC Y p s mi args c own cc nL) (hin2 : meth.name = "<init>") {ci : Nat} {fs : List Value} (hW : WS Y s [(a, .inr (ci, fs))] es H locs) {Cn : String} {T : u_T} {N : Nat} (hc : classes[ci]? = some (Cn, T, N)) (hin : ∀ w ∈ u_ws Cn T N, w ∈ bigW) (ty0 : Nat → FieldType) (hty : ∀ k, k < N → parseFieldDescriptor (T k).2.2.1 = some (ty0 k)) (hnm : ∀ a, a < N → ∀ b, b < N → a ≠ b → (T a).2.1 ≠ (T b).2.1) {k : Nat} (hk : k < N) {idx : Nat} (hl : (.fieldLink own idx (T k).1 (T k).2.1 (T k).2.2.1 : Cond) ∈ bigW) (hdecl : (T k).1 = own) {v : Value} (hn : narrow (ty0 k) v = v) (hfit : fits (ty0 k) v = true) (hkl : k < fs.length) (hd : decode cc pc = .ok (.putfield idx, 3))
    (kk : ∀ (H1 : Heap) (locs1 : List Loc), WS Y s [(a, .inr (ci, fs.set k v))] es H1 locs1 → W p l e R s mi args below meth c H1 locs1 cells slots Q (F0 mi (pc + 3) ls rest)) : W p l e R s mi args below meth c H locs cells slots Q (F0 mi pc ls (v :: .ref a :: rest)) := by
  obtain ⟨hx, hb, -, hown, hts, hCK⟩ := C
  have hap := va_apart (own := own) hts hin ty0 hty hnm hCK.1 hc
  obtain ⟨r, h1, cell, q1, q2, q3, q4⟩ := (hW.1 _ List.mem_cons_self).2
  have hr : r = (Cn, T, N) := Option.some.inj (h1.symm.trans hc)
  subst hr
  obtain ⟨hS, hfc, kC, hkC, hkind⟩ := hCK.1.1 ci _ hc
  obtain ⟨cf, kf, fi, f, hi, hsl⟩ := hS k hk
  have hlay := hts _ (hin _ (u_in_lay hk))
  have hst := (u_facts hfc hkC (u_lays hts hin hk) hi).1
  unfold u_lay at hlay
  by_cases hfin : (T k).2.2.2 = true
  · rw [if_pos hfin] at hlay
    have hcf : mi.cls = cf := by
      obtain ⟨_, _, c', _, _, _, -, -, hf', -, -, -, hown2, -⟩ := Cond.laysFinal_spec hlay
      have e1 : c' = cf := by have := hi.symm.trans hf'; simp at this; exact this.1.symm
      rw [hdecl] at hown2
      rw [← e1]; exact Option.some.inj (hown.symm.trans hown2)
    have h6 := u_fits hfc hkC hkind (Or.inr hlay) hi (hty k hk) hn hfit
    refine W.putFinK hx hb hown (hts _ hl) hi hst hcf hin2 (by rw [q2]; exact h6) q1 q3 (by rw [hsl]; exact k2_hasslot (q4 k hk)) rfl rfl hd fun H' e1 e2 e3 => ?_
    rw [hsl] at e1 ⊢
    exact kk H' _ (hW.put ⟨_, hc, t_OB.to (V := updV (vp_V fs) k v) ⟨_, e1, q2, q3, t_set q4 hap hk v⟩ (fun j _ => vp_updV_set hkl v j)⟩ e2 e3)
  · rw [if_neg hfin] at hlay
    have h6 := u_store hfc hkC hkind hlay hi (hty k hk) hn hfit
    refine W.putK hx hb (f := f) ⟨hown, hts _ hl, ⟨_, _, _, hi⟩, hst⟩ (by rw [q2]; exact h6) q1 q3 (by rw [hsl]; exact k2_hasslot (q4 k hk)) rfl rfl hd fun H' e1 e2 e3 => ?_
    rw [hsl] at e1 ⊢
    exact kk H' _ (hW.put ⟨_, hc, t_OB.to (V := updV (vp_V fs) k v) ⟨_, e1, q2, q3, t_set q4 hap hk v⟩ (fun j _ => vp_updV_set hkl v j)⟩ e2 e3)
/-- getfield of this object -/
theorem sn_get (C : CC Y p s mi args c own cc nL) {ci : Nat} {fs : List Value} (hW : WS Y s [(a, .inr (ci, fs))] es H locs) {Cn : String} {T : u_T} {N : Nat} (hc : classes[ci]? = some (Cn, T, N)) (hin : ∀ w ∈ u_ws Cn T N, w ∈ bigW) {k : Nat} (hk : k < N) {idx : Nat} (hl : (.fieldLink own idx (T k).1 (T k).2.1 (T k).2.2.1 : Cond) ∈ bigW) {v : Value} (hv : fs[k]? = some v) (hd : decode cc pc = .ok (.getfield idx, 3))
    (kk : W p l e R s mi args below meth c H locs cells slots Q (F0 mi (pc + 3) ls (v :: rest))) : W p l e R s mi args below meth c H locs cells slots Q (F0 mi pc ls (.ref a :: rest)) := by
  have hP : va_P Y.1 classes [(a, .inr (ci, fs))] H := fun j q hj => (hW.1 q (List.mem_of_getElem? hj)).2
  exact va_get C.1 C.2.1 C.2.2.2.2.1 hin C.2.2.2.1 C.2.2.2.2.2.1 hP 0 rfl hc k hk (C.2.2.2.2.1 _ hl) (fun _ h => h) hv hd kk
/-- new -/
theorem sn_new (C : CC Y p s mi args c own cc nL) (hW : WS Y s th es H locs) {Cn : String} {T : u_T} {N ci idx : Nat} (hc : classes[ci]? = some (Cn, T, N)) (hin : ∀ w ∈ u_ws Cn T N, w ∈ bigW) (ty0 : Nat → FieldType) (hty : ∀ k, k < N → parseFieldDescriptor (T k).2.2.1 = some (ty0 k)) (hcl : (.classLink own idx Cn : Cond) ∈ bigW) (hinst : (.instantiable Cn N : Cond) ∈ bigW) (hini : (.initialized Cn : Cond) ∈ bigW) {fs : List Value} (hfs : ∀ j, j < N → defaultValue (ty0 j) = vp_V fs j) (hcells : cells + 1 ≤ R.cells) (hslots : slots + N ≤ R.slots) {q : Nat} (hq : q = s.heap.size + es.length) (hd : decode cc pc = .ok (.new idx, 3))
    (kk : ∀ H1 : Heap, WS Y s th (es ++ [.inr (ci, fs)]) H1 locs → W p l e R s mi args below meth c H1 locs (cells + 1) (slots + N) Q (F0 mi (pc + 3) ls (.ref q :: rest))) : W p l e R s mi args below meth c H locs cells slots Q (F0 mi pc ls rest) := by
  have hts := C.2.2.2.2.1
  have hKn := C.2.2.2.2.2.1.1 ci _ hc
  refine W.newcK C.1 C.2.1 C.2.2.2.1 (hts _ hcl) (hts _ hinst) (hts _ hini) rfl hd hcells hslots hKn.2.1 (hW.2.1.1.trans hq.symm) fun H1 kC hkC e1 z1 o1 => ?_
  rw [hq] at e1
  refine kk H1 (hW.push ⟨_, hc, (u_born ty0 hts hin hKn hkC e1 hty).to hfs⟩ (by rw [z1, hq, hW.2.1.1]) (fun x hx => o1 x (by rw [hq, ← hW.2.1.1]; exact hx)))
/-- newarray -/
theorem sn_newa (C : CC Y p s mi args c own cc nL) (hW : WS Y s th es H locs) {atype : ArrayType} {t0 : Nat} {ty : FieldType} (hty : newarray.typeOf atype = ty) (harr : (.arrayClass ty : Cond) ∈ bigW) (ht : (tysC Y)[t0]? = some (Y.2 t0, ty)) (hpr : ∀ (U : State) (cA : ClassId), va_RA U cA ty = (U.vm.findClass ("[" ++ ty.toString) = some cA)) {n : Int32} {N' : Nat} {a0 : vp_A} (ha : ∀ cA : ClassId, vp_cell cA a0 = arrV cA N' (fun _ => defaultValue ty)) (hn : ¬ n < 0) (hN : n.toNatClampNeg = N') (hbytes : N' * componentBytes ty ≤ 536870912) (hcells : cells + 1 ≤ R.cells) (hslots : slots + N' ≤ R.slots) {q : Nat} (hq : q = s.heap.size + es.length) (hd : decode cc pc = .ok (.newarray atype, 2))
    (kk : ∀ H1 : Heap, WS Y s th (es ++ [.inl (Y.2 t0, a0)]) H1 locs → W p l e R s mi args below meth c H1 locs (cells + 1) (slots + N') Q (F0 mi (pc + 2) ls (.ref q :: rest))) : W p l e R s mi args below meth c H locs cells slots Q (F0 mi pc ls (.int n :: rest)) := by
  subst hty
  refine va_newaK C.1 C.2.1 (C.2.2.2.2.1 _ harr) rfl hd rfl hn hN hbytes hcells hslots (hW.2.1.1.trans hq.symm) fun H1 cA e1 z1 o1 hAr hNm => ?_
  have hca : cA = Y.2 t0 := by
    have h2 := (C.2.2.2.2.2.1.2 t0 _ ht).2
    rw [hpr] at h2
    exact Option.some.inj (hNm.symm.trans h2)
  subst hca
  rw [hq] at e1
  refine kk H1 (hW.push ?_ (by rw [z1, hq, hW.2.1.1]) (fun x hx => o1 x (by rw [hq, ← hW.2.1.1]; exact hx)))
  show H1[s.heap.size + es.length]? = some (vp_cell _ _)
  rw [ha]
  exact e1
/-- anewarray -/
theorem sn_newq (C : CC Y p s mi args c own cc nL) (hW : WS Y s th es H locs) {Cn : String} {idx t0 : Nat} (hcl : (.classLink own idx Cn : Cond) ∈ bigW) (hover : va_AO Cn s) (ht : (tysC Y)[t0]? = some (Y.2 t0, .object Cn)) {n : Int32} {N' : Nat} (hn : ¬ n < 0) (hN : n.toNatClampNeg = N') (hbytes : N' * 4 ≤ 536870912) (hcells : cells + 1 ≤ R.cells) (hslots : slots + N' ≤ R.slots) {q : Nat} (hq : q = s.heap.size + es.length) (hd : decode cc pc = .ok (.anewarray idx, 3))
    (kk : ∀ H1 : Heap, WS Y s th (es ++ [.inl (Y.2 t0, N', .inr (.inr (.inr (.inr (fun _ => none)))))]) H1 locs → W p l e R s mi args below meth c H1 locs (cells + 1) (slots + N') Q (F0 mi (pc + 3) ls (.ref q :: rest))) : W p l e R s mi args below meth c H locs cells slots Q (F0 mi pc ls (.int n :: rest)) := by
  subst hN
  refine W.anew C.1 C.2.1 C.2.2.2.1 (C.2.2.2.2.1 _ hcl) (va_AO.use hover) rfl hd rfl hn hbytes hcells hslots fun cA kA comp f1 f2 f3 f4 => ?_
  obtain ⟨kA', comp', g1, g2, g3, g4⟩ := (C.2.2.2.2.2.1.2 t0 _ ht).2
  have hca : cA = Y.2 t0 := Option.some.inj (f1.symm.trans g4)
  subst hca
  have hz := hW.2.1.1
  rw [show H.size = q from hz.trans hq.symm]
  refine kk _ (hW.push ?_ ?_ ?_)
  · show (H.push _)[s.heap.size + es.length]? = some (vp_cell _ _)
    rw [← hz, Array.getElem?_push_size, vp_cell_q, show (fun j : Nat => va_rf ((fun _ : Nat => (none : Option Nat)) j)) = (fun _ => Value.null) from rfl, ← arrV_new]
  · rw [Array.size_push]
  · intro x hx
    rw [Array.getElem?_push, if_neg (Nat.ne_of_lt hx)]
theorem va_D.one {A : Nat → Prop} {x : Nat × va_E} (h : A x.1) : va_D A [x] := by
  refine ⟨fun i j p q hi hj _ => ?_, fun k q hk => ?_⟩
  · have h1 := (List.getElem?_eq_some_iff.mp hi).1
    have h2 := (List.getElem?_eq_some_iff.mp hj).1
    simp only [List.length_cons, List.length_nil] at h1 h2
    omega
  · have := List.mem_of_getElem? hk
    rcases List.mem_cons.mp this with rfl | h
    · exact h
    · exact absurd h List.not_mem_nil
/-- iastore into a new array -/
theorem sn_iast (C : CC Y p s mi args c own cc nL) (hW : WS Y s th es H locs) {k n : Nat} {f : Nat → Int32} (hk : es[k]? = some (.inl (Y.2 0, n, .inl f))) {i x : Int32} (hx : vp_in i n) {q : Nat} (hq : q = s.heap.size + k) (hd : decode cc pc = .ok (.iastore, 1))
    (kk : ∀ (H1 : Heap) (locs1 : List Loc), WS Y s th (es.set k (.inl (Y.2 0, n, .inl (upd f i.toNatClampNeg x)))) H1 locs1 → W p l e R s mi args below meth c H1 locs1 cells slots Q (F0 mi (pc + 1) ls rest)) : W p l e R s mi args below meth c H locs cells slots Q (F0 mi pc ls (.int x :: .int i :: .ref q :: rest)) := by
  subst hq
  have ha := hW.2.1.2 k _ hk
  refine W.iast C.1 C.2.1 ha ((C.2.2.2.2.2.1.2 0 _ rfl).1 n (fun j => .int (f j))) (fun q => by cases q) (by show ¬ (i < 0 ∨ (arrV _ _ _).slots.size ≤ _); rw [arrV_size]; exact hx) rfl rfl hd fun H1 e1 z oq => ?_
  refine kk H1 _ (hW.set hk ?_ z oq)
  show H1[s.heap.size + k]? = some (vp_cell _ _)
  rw [e1, vp_cell_i, vp_cell_i, arrV_store]
  congr 2
  funext j
  by_cases hj : j = i.toNatClampNeg
  · subst hj; simp [updV, upd]
  · simp [updV, upd, hj]
/-- castore into a new array -/
theorem sn_cast (C : CC Y p s mi args c own cc nL) (hW : WS Y s th es H locs) {k n : Nat} {f : Nat → Int32} (hk : es[k]? = some (.inl (Y.2 3, n, .inl f))) {i x : Int32} (hx : vp_in i n) {q : Nat} (hq : q = s.heap.size + k) (hd : decode cc pc = .ok (.castore, 1))
    (kk : ∀ (H1 : Heap) (locs1 : List Loc), WS Y s th (es.set k (.inl (Y.2 3, n, .inl (upd f i.toNatClampNeg (vp_nar .char x))))) H1 locs1 → W p l e R s mi args below meth c H1 locs1 cells slots Q (F0 mi (pc + 1) ls rest)) : W p l e R s mi args below meth c H locs cells slots Q (F0 mi pc ls (.int x :: .int i :: .ref q :: rest)) := by
  subst hq
  have ha := hW.2.1.2 k _ hk
  refine W.cast C.1 C.2.1 ha ((C.2.2.2.2.2.1.2 3 _ rfl).1 n (fun j => .int (f j))) (fun q => by cases q) (by show ¬ (i < 0 ∨ (arrV _ _ _).slots.size ≤ _); rw [arrV_size]; exact hx) rfl rfl hd fun H1 e1 z oq => ?_
  refine kk H1 _ (hW.set hk ?_ z oq)
  show H1[s.heap.size + k]? = some (vp_cell _ _)
  rw [e1, vp_cell_i, vp_cell_i, arrV_store]
  congr 2
  funext j
  by_cases hj : j = i.toNatClampNeg
  · subst hj; simp [updV, upd, vp_nar]; try rfl
  · simp [updV, upd, hj]
/-- aastore of a new object into a new array -/
theorem sn_aast (C : CC Y p s mi args c own cc nL) (hW : WS Y s th es H locs) {k j t0 ci n : Nat} {r : vw_C} {f f' : Nat → Option Nat} {vs : List Value} (hk : es[k]? = some (.inl (Y.2 t0, n, .inr (.inr (.inr (.inr f)))))) (ht : (tysC Y)[t0]? = some (Y.2 t0, .object r.1)) (hv : es[j]? = some (.inr (ci, vs))) (hc : classes[ci]? = some r) {i : Int32} (hx : vp_in i n) {q v : Nat} (hq : q = s.heap.size + k) (hqv : v = s.heap.size + j) (hf : f' = va_up f i.toNatClampNeg (some v)) (hd : decode cc pc = .ok (.aastore, 1))
    (kk : ∀ (H1 : Heap) (locs1 : List Loc), WS Y s th (es.set k (.inl (Y.2 t0, n, .inr (.inr (.inr (.inr f')))))) H1 locs1 → W p l e R s mi args below meth c H1 locs1 cells slots Q (F0 mi (pc + 1) ls rest)) : W p l e R s mi args below meth c H locs cells slots Q (F0 mi pc ls (.ref v :: .int i :: .ref q :: rest)) := by
  subst hq
  subst hf
  have ha := hW.2.1.2 k _ hk
  have hva := hW.2.1.2 j _ hv
  rw [← hqv] at hva
  have hlt : i.toNatClampNeg < n := Nat.not_le.mp fun q => hx (Or.inr q)
  have h0 : ¬ i < 0 := fun q => hx (Or.inl q)
  obtain ⟨r', hr', cellV, g1, g2, g3, -⟩ := hva
  have hcls := (C.2.2.2.2.2.1.1 ci r hc).2
  obtain ⟨kA, comp, k1, k2, k3, -⟩ := (C.2.2.2.2.2.1.2 t0 _ ht).2
  have hcomp : comp = Y.1.1 ci := Option.some.inj (k3.symm.trans hcls.1)
  subst hcomp
  obtain ⟨kC, hkC, -⟩ := hcls.2
  refine W.aast C.1 C.2.1 ha (fun q h => by cases h) (fun h => by cases h) k1 k2 rfl hkC ⟨h0, by show _ < (arrV _ _ _).slots.size; rw [arrV_size]; exact hlt⟩ g1 (fun q h => by rw [g3] at h; cases h) (by rw [g2]; exact hkC) (by rw [g2]; exact va_assign hcls) rfl rfl hd fun H1 e1 z oq => ?_
  refine kk H1 _ (hW.set hk ?_ z oq)
  show H1[s.heap.size + k]? = some (vp_cell _ _)
  rw [e1, vp_cell_q, vp_cell_q, arrV_store]
  congr 2
  funext t
  by_cases ht : t = i.toNatClampNeg
  · subst ht; simp [updV, va_up, va_rf]
  · simp [updV, va_up, ht]
theorem c_blind {av : List Value} {e0 : va_E} {z : Nat} : FrameBlind (va_Pc av (fun U => U.heap.size = z ∧ a < z ∧ va_at Y.1 classes (a, e0) U.heap ∧ CK Y U)) := fun _ U _ _ q => ⟨q.1, q.2.1, q.2.2.1, q.2.2.2.1, CK.same (s := U) rfl q.2.2.2.2⟩
/-- a constructor of a nest mate, of an object that is new -/
theorem sn_callN (C : CC Y p s mi args c own cc nL) (hW : WS Y s th es H locs) {y : MethodName} {bts : ByteArray} {mL n dz K S idx k : Nat} {As : List Value} {e0 e1 : va_E} {es1 : List va_E} {host : String} (hk : es[k]? = some e0) (hM : MetC Y l y bts mL dz K S (s.heap.size + k) As e0 e1 (s.heap.size + es.length) es1) (hcode : (.code y bts mL none : Cond) ∈ bigW) (hins : (.instanceMethod y : Cond) ∈ bigW) (hini : (.initialized y.cls : Cond) ∈ bigW) (hl : va_Nw (.methodLinkNest own idx y host) s) (hy : y.name = "<init>" ∧ y.cls ≠ "java/lang/invoke/MethodHandle" ∧ y.cls ≠ "java/lang/invoke/VarHandle" ∧ (parseMethodDescriptor y.desc).map (fun d => d.parameters.length) = some n) (hR : dz + 1 ≤ R.frames ∧ 8 + (mL + 11) + 38 * dz ≤ R.locals) (hcs : cells + K ≤ R.cells ∧ slots + S ≤ R.slots) (hn : As.length = n) (hls : ls.size = nL) {st : List Value} {q : Nat} (hq : q = s.heap.size + k) (hst : st = As.reverse ++ .ref q :: rest) (hr : (rest.map fun v => v.category).sum ≤ 8) (hd : decode cc pc = .ok (.invokespecial idx, 3))
    (kk : ∀ (H1 : Heap) (locs1 : List Loc), WS Y s th (es.set k e1 ++ es1) H1 locs1 → W p l e R s mi args below meth c H1 locs1 (cells + K) (slots + S) Q (F0 mi (pc + 3) ls rest)) : W p l e R s mi args below meth c H locs cells slots Q (F0 mi pc ls st) := by
  subst hq
  have hz := hW.2.1.1
  have hlt := (List.getElem?_eq_some_iff.mp hk).1
  have hG : GoodIn bigW (wsM y bts mL none) := good_cons hcode good_bigW
  have cw := va_cnB (R := R) n C.2.2.2.2.1 hG rfl (rm := { frames := dz, cells := K, slots := S, locals := 38 * dz }) (mc := K) (ms := S) rfl rfl hl (C.2.2.2.2.1 _ hini) hy.2 hR
  refine va_callv (va_runIN (As := As) (rest := rest) ⟨C.1, C.2.1, C.2.2.1, C.2.2.2.1, C.2.2.2.2.1⟩ hM ⟨cw, hy.1, C.2.2.2.2.1 _ hins⟩ ⟨c_blind, fun U hU hw => ⟨rfl, by rw [hU]; exact hz, by omega, by rw [hU]; exact hW.2.1.2 k _ hk, CK.warm hw C.2.2.2.2.2⟩⟩ rfl hn hls hst (lv_room hr) hd hcs) hW.2.2 (fun q _ h => ?_) (fun q h => ?_) (fun u t H1 locs1 ht hvm hp hb hz1 hk1 hS => ?_)
  · rcases h with h | h
    · exact Or.inr (by omega)
    · exact Or.inr (by omega)
  · rcases h with h | h
    · exact Or.inr (by rw [h]; exact Nat.le_add_right _ _)
    · exact Or.inr (Nat.le_trans (Nat.le_add_right _ _) h)
  · rw [ht] at hb
    exact kk H1 locs1 (hW.called hk hb.1 hb.2 hk1 hS)
/-- the same by an ordinary link -/
theorem sn_call (C : CC Y p s mi args c own cc nL) (hW : WS Y s th es H locs) {y : MethodName} {bts : ByteArray} {mL n dz K S idx k : Nat} {As : List Value} {e0 e1 : va_E} {es1 : List va_E} (hk : es[k]? = some e0) (hM : MetC Y l y bts mL dz K S (s.heap.size + k) As e0 e1 (s.heap.size + es.length) es1) (hcode : (.code y bts mL none : Cond) ∈ bigW) (hins : (.instanceMethod y : Cond) ∈ bigW) (hini : (.initialized y.cls : Cond) ∈ bigW) (hl : (.methodLink own idx y : Cond) ∈ bigW) (hy : y.name = "<init>" ∧ y.cls ≠ "java/lang/invoke/MethodHandle" ∧ y.cls ≠ "java/lang/invoke/VarHandle" ∧ (parseMethodDescriptor y.desc).map (fun d => d.parameters.length) = some n) (hR : dz + 1 ≤ R.frames ∧ 8 + (mL + 11) + 38 * dz ≤ R.locals) (hcs : cells + K ≤ R.cells ∧ slots + S ≤ R.slots) (hn : As.length = n) (hls : ls.size = nL) {st : List Value} {q : Nat} (hq : q = s.heap.size + k) (hst : st = As.reverse ++ .ref q :: rest) (hr : (rest.map fun v => v.category).sum ≤ 8) (hd : decode cc pc = .ok (.invokespecial idx, 3))
    (kk : ∀ (H1 : Heap) (locs1 : List Loc), WS Y s th (es.set k e1 ++ es1) H1 locs1 → W p l e R s mi args below meth c H1 locs1 (cells + K) (slots + S) Q (F0 mi (pc + 3) ls rest)) : W p l e R s mi args below meth c H locs cells slots Q (F0 mi pc ls st) := by
  subst hq
  have hz := hW.2.1.1
  have hlt := (List.getElem?_eq_some_iff.mp hk).1
  have hG : GoodIn bigW (wsM y bts mL none) := good_cons hcode good_bigW
  have hts := C.2.2.2.2.1
  have cw := cwI (R := R) n hts hG rfl (rm := { frames := dz, cells := K, slots := S, locals := 38 * dz }) (mc := K) (ms := S) rfl rfl (hts _ hini) (hts _ hl) (hts _ hins) hy.1 hy.2 hR
  refine va_callv (va_runI (As := As) (rest := rest) ⟨C.1, C.2.1, C.2.2.1, C.2.2.2.1, C.2.2.2.2.1⟩ hM cw ⟨c_blind, fun U hU hw => ⟨rfl, by rw [hU]; exact hz, by omega, by rw [hU]; exact hW.2.1.2 k _ hk, CK.warm hw C.2.2.2.2.2⟩⟩ rfl hn hls hst (lv_room hr) hd hcs) hW.2.2 (fun q _ h => ?_) (fun q h => ?_) (fun u t H1 locs1 ht hvm hp hb hz1 hk1 hS => ?_)
  · rcases h with h | h
    · exact Or.inr (by omega)
    · exact Or.inr (by omega)
  · rcases h with h | h
    · exact Or.inr (by rw [h]; exact Nat.le_add_right _ _)
    · exact Or.inr (Nat.le_trans (Nat.le_add_right _ _) h)
  · rw [ht] at hb
    exact kk H1 locs1 (hW.called hk hb.1 hb.2 hk1 hS)
theorem app_last {es : List va_E} {e0 e1 : va_E} {es1 : List va_E} : (es ++ [e0])[es.length]? = some e0 ∧ (es ++ [e0]).set es.length e1 ++ es1 = es ++ (e1 :: es1) := by
  constructor
  · rw [List.getElem?_append_right (Nat.le_refl _), Nat.sub_self]; rfl
  · rw [List.set_append_right _ _ (Nat.le_refl _), Nat.sub_self, List.append_assoc]; rfl
/-- a constructor of the object that was made last -/
theorem sn_callNL (C : CC Y p s mi args c own cc nL) {e0 : va_E} (hW : WS Y s th (es ++ [e0]) H locs) {y : MethodName} {bts : ByteArray} {mL n dz K S idx k z1 : Nat} {As : List Value} {e1 : va_E} {es1 : List va_E} {host : String} (hk : k = es.length) (hz1 : z1 = s.heap.size + (es.length + 1)) (hM : MetC Y l y bts mL dz K S (s.heap.size + k) As e0 e1 z1 es1) (hcode : (.code y bts mL none : Cond) ∈ bigW) (hins : (.instanceMethod y : Cond) ∈ bigW) (hini : (.initialized y.cls : Cond) ∈ bigW) (hl : va_Nw (.methodLinkNest own idx y host) s) (hy : y.name = "<init>" ∧ y.cls ≠ "java/lang/invoke/MethodHandle" ∧ y.cls ≠ "java/lang/invoke/VarHandle" ∧ (parseMethodDescriptor y.desc).map (fun d => d.parameters.length) = some n) (hR : dz + 1 ≤ R.frames ∧ 8 + (mL + 11) + 38 * dz ≤ R.locals) (hcs : cells + K ≤ R.cells ∧ slots + S ≤ R.slots) (hn : As.length = n) (hls : ls.size = nL) {st : List Value} (hst : st = As.reverse ++ .ref (s.heap.size + k) :: rest) (hr : (rest.map fun v => v.category).sum ≤ 8) (hd : decode cc pc = .ok (.invokespecial idx, 3))
    (kk : ∀ (H1 : Heap) (locs1 : List Loc), WS Y s th (es ++ (e1 :: es1)) H1 locs1 → W p l e R s mi args below meth c H1 locs1 (cells + K) (slots + S) Q (F0 mi (pc + 3) ls rest)) : W p l e R s mi args below meth c H locs cells slots Q (F0 mi pc ls st) := by
  subst hk
  subst hz1
  have h2 := app_last (es := es) (e0 := e0) (e1 := e1) (es1 := es1)
  refine sn_callN C hW (k := es.length) h2.1 (by rw [List.length_append]; exact hM) hcode hins hini hl hy hR hcs hn hls rfl hst hr hd (fun H1 locs1 hW1 => ?_)
  rw [h2.2] at hW1
  exact kk H1 locs1 hW1
theorem sn_callL (C : CC Y p s mi args c own cc nL) {e0 : va_E} (hW : WS Y s th (es ++ [e0]) H locs) {y : MethodName} {bts : ByteArray} {mL n dz K S idx k z1 : Nat} {As : List Value} {e1 : va_E} {es1 : List va_E} (hk : k = es.length) (hz1 : z1 = s.heap.size + (es.length + 1)) (hM : MetC Y l y bts mL dz K S (s.heap.size + k) As e0 e1 z1 es1) (hcode : (.code y bts mL none : Cond) ∈ bigW) (hins : (.instanceMethod y : Cond) ∈ bigW) (hini : (.initialized y.cls : Cond) ∈ bigW) (hl : (.methodLink own idx y : Cond) ∈ bigW) (hy : y.name = "<init>" ∧ y.cls ≠ "java/lang/invoke/MethodHandle" ∧ y.cls ≠ "java/lang/invoke/VarHandle" ∧ (parseMethodDescriptor y.desc).map (fun d => d.parameters.length) = some n) (hR : dz + 1 ≤ R.frames ∧ 8 + (mL + 11) + 38 * dz ≤ R.locals) (hcs : cells + K ≤ R.cells ∧ slots + S ≤ R.slots) (hn : As.length = n) (hls : ls.size = nL) {st : List Value} (hst : st = As.reverse ++ .ref (s.heap.size + k) :: rest) (hr : (rest.map fun v => v.category).sum ≤ 8) (hd : decode cc pc = .ok (.invokespecial idx, 3))
    (kk : ∀ (H1 : Heap) (locs1 : List Loc), WS Y s th (es ++ (e1 :: es1)) H1 locs1 → W p l e R s mi args below meth c H1 locs1 (cells + K) (slots + S) Q (F0 mi (pc + 3) ls rest)) : W p l e R s mi args below meth c H locs cells slots Q (F0 mi pc ls st) := by
  subst hk
  subst hz1
  have h2 := app_last (es := es) (e0 := e0) (e1 := e1) (es1 := es1)
  refine sn_call C hW (k := es.length) h2.1 (by rw [List.length_append]; exact hM) hcode hins hini hl hy hR hcs hn hls rfl hst hr hd (fun H1 locs1 hW1 => ?_)
  rw [h2.2] at hW1
  exact kk H1 locs1 hW1
/-- Object's constructor -/
theorem sn_obj (C : CC Y p s mi args c own cc nL) {idx : Nat} (hl : (.methodLink own idx objectInit : Cond) ∈ bigW) (hls : ls.size = nL) (hf : 1 ≤ R.frames) (hloc : 12 ≤ R.locals) (hd : decode cc pc = .ok (.invokespecial idx, 3))
    (kk : W p l e R s mi args below meth c H locs cells slots Q (F0 mi (pc + 3) ls [])) : W p l e R s mi args below meth c H locs cells slots Q (F0 mi pc ls [.ref a]) :=
  W.objInit C.1 C.2.1 C.2.2.2.1 (C.2.2.2.2.1 _ hl) (C.2.2.2.2.1 _ w_85) (C.2.2.2.2.1 _ w_86) rfl (hls.trans C.2.2.1.symm) rfl hd hf hloc kk
end MADE
/-- a constructor's contract out of the walk of its body -/
theorem met_C {Y : CD} {l : Launch} {y : MethodName} {cc : ByteArray} {nL d K S a z : Nat} {As : List Value} {e0 e1 : va_E} {es : List va_E} (hy : plainName y.cls = true) (hny : y.name = "<init>") (hn : (lg_sl (.ref a :: As)).length ≤ nL)
    (body : ∀ (p : Program) (e : Env) (s : State) (mi : MethodId) (args : Array Value) (below : List Frame) (meth : Method) (c : Code) (ls : Array Slot) (Q : State → Prop), s.heap.size = z → CC Y p s mi args c y.cls cc nL → meth.name = "<init>" → (∀ (pc : Nat) (ls : Array Slot) (H : Heap) (locs : List Loc), WS Y s [(a, e1)] es H locs → decode cc pc = .ok (.return_, 1) → W p l e { frames := d, cells := K, slots := S, locals := 38 * d } s mi args below meth c H locs K S Q (F0 mi pc ls [])) → WS Y s [(a, e0)] [] s.heap [] → lv_has ls nL (lv_args 0 (.ref a :: As)) → W p l e { frames := d, cells := K, slots := S, locals := 38 * d } s mi args below meth c s.heap [] 0 0 Q (F0 mi 0 ls [])) : MetC Y l y cc nL d K S a As e0 e1 z es := by
  refine Met.ofW (cc := cc) (maxL := nL) (ret := none) hy rfl ?_
  intro p e s mi args below meth c s₁ B hml hv
  obtain ⟨rfl, hsz, haz, hP, hK⟩ := hv
  have hts := atoms_spec (ws := wsM y cc nL none) B.pre
  have hlocks := B.notSynchronized
  have hr := B.returns
  have hin : meth.name = "<init>" := (name_of_methodNamed B.named B.method).1.trans hny
  have C : CC Y p s mi (Value.ref a :: As).toArray c y.cls cc nL := ⟨B.exec, B.bytes, hml, findClass_of_methodNamed B.named, fun w hw => hts w (List.mem_cons_of_mem _ hw), hK⟩
  have hl := lv_entry (.ref a :: As) hn
  rw [lg_entry_eq]
  refine body p e s mi _ below meth c _ _ hsz C hin ?_ ⟨fun x hx => ?_, ⟨rfl, fun k e he => by cases he⟩, va_S.rf⟩ hl
  · intro pc ls H locs hW hd
    have hA : ∀ q, (q ∈ [(a, e1)].map Prod.fst ∨ s.heap.size ≤ q) → (q = a ∨ z ≤ q) := fun q h => by
      rcases h with h | h
      · rcases List.mem_cons.mp h with h | h
        · exact Or.inl h
        · exact absurd h List.not_mem_nil
      · exact Or.inr (by rw [← hsz]; exact h)
    have hA2 : ∀ q, (q = a ∨ z ≤ q) → (q ∈ [(a, e1)].map Prod.fst ∨ s.heap.size ≤ q) := fun q h => by
      rcases h with h | h
      · exact Or.inl (by rw [h]; exact List.mem_cons_self)
      · exact Or.inr (by rw [hsz]; exact h)
    refine W.vret C.1 C.2.1 hr (fun t ht hw => ⟨⟨(), rfl, trivial, ?_⟩, ?_⟩) (fun q hq => hA _ (hW.2.2.2.2 q hq)) hd
    · show va_at Y.1 classes (a, e1) t.heap ∧ NW Y z es t.heap
      rw [ht, ← hsz]
      exact ⟨(hW.1 _ List.mem_cons_self).2, hW.2.1⟩
    · have := hW.2.2.F ht
      exact ⟨this.1, fun q q1 q2 => this.2 q q1 (fun h => q2 (hA q h))⟩
  · rcases List.mem_cons.mp hx with rfl | hx
    · exact ⟨by rw [hsz]; exact haz, hP⟩
    · exact absurd hx List.not_mem_nil
