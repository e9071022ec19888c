def isC (x : Int32) : Bool := decide (narrow .char (.int x) = .int x)
def isY (x : Int32) : Bool := decide (narrow .byte (.int x) = .int x)
theorem isC_E {x : Int32} (h : isC x = true) : narrow .char (.int x) = .int x := of_decide_eq_true h
theorem isY_E {x : Int32} (h : isY x = true) : narrow .byte (.int x) = .int x := of_decide_eq_true h
section STRS
variable {X : TX} {p : Program} {l : Launch} {e : Env} {R : Room} {s : State} {mi : MethodId} {args : Array Value} {below : List Frame} {meth : Method} {c : Code} {own : String} {cc : ByteArray} {nL : Nat} {m m1 : Mem} {H : Heap} {locs : List Loc} {cells slots : Nat} {Q : State → Prop} {pc : Nat} {ls : Array Slot} {rest : List Value}
theorem zs_value (C : Cx X p s mi args c own cc nL) (hW : Wd X s m H locs) {i : Nat} (hi : i < 6) {idx : Nat} (hl : (.fieldLink own idx "java/lang/String" "value" "[B" : Cond) ∈ bigW) (hd : decode cc pc = .ok (.getfield idx, 3)) (kk : W p l e R s mi args below meth c H locs cells slots Q (F0 mi (pc + 3) ls (.ref (adV X i) :: rest))) : W p l e R s mi args below meth c H locs cells slots Q (F0 mi pc ls (.ref (adK X i) :: rest)) :=
  vk_getf C.1 C.2.1 (C.2.2.2.2.2.2.1.1.1 i hi).2.2.1 hW.2 C.2.2.2.1 (C.2.2.2.2.1 _ hl) (fun _ h => h) hd kk
theorem zs_coder (C : Cx X p s mi args c own cc nL) (hW : Wd X s m H locs) {i : Nat} (hi : i < 6) {idx : Nat} (hl : (.fieldLink own idx "java/lang/String" "coder" "B" : Cond) ∈ bigW) (hd : decode cc pc = .ok (.getfield idx, 3)) (kk : W p l e R s mi args below meth c H locs cells slots Q (F0 mi (pc + 3) ls (.int 0 :: rest))) : W p l e R s mi args below meth c H locs cells slots Q (F0 mi pc ls (.ref (adK X i) :: rest)) :=
  vk_getf C.1 C.2.1 (C.2.2.2.2.2.2.1.1.1 i hi).2.1 hW.2 C.2.2.2.1 (C.2.2.2.2.1 _ hl) (fun _ h => h) hd kk
theorem zs_len (C : Cx X p s mi args c own cc nL) (hW : Wd X s m H locs) {i : Nat} (hi : i < 6) (hd : decode cc pc = .ok (.arraylength, 1)) (kk : W p l e R s mi args below meth c H locs cells slots Q (F0 mi (pc + 1) ls (.int (nI (slen.getD i 0)) :: rest))) : W p l e R s mi args below meth c H locs cells slots Q (F0 mi pc ls (.ref (adV X i) :: rest)) :=
  va_tlen C.1 C.2.1 (C.2.2.2.2.2.2.1.1.1 i hi).2.2.2 hW.2 rfl hd kk
theorem zs_ald (C : Cx X p s mi args c own cc nL) (hW : Wd X s m H locs) {i : Nat} (hi : i < 6) {x : Int32} (hx : vp_in x (slen.getD i 0)) (hd : decode cc pc = .ok (.baload, 1)) (kk : W p l e R s mi args below meth c H locs cells slots Q (F0 mi (pc + 1) ls (.int ((sbyt.getD i []).getD x.toNatClampNeg 0) :: rest))) : W p l e R s mi args below meth c H locs cells slots Q (F0 mi pc ls (.int x :: .ref (adV X i) :: rest)) :=
  va_tb C.1 C.2.1 (C.2.2.2.2.2.2.1.1.1 i hi).2.2.2 hW.2 hx rfl hd kk
theorem zs_cs (C : Cx X p s mi args c own cc nL) (hW : Wd X s m H locs) {idx : Nat} (hl : (.fieldLink own idx "java/lang/String" "COMPACT_STRINGS" "Z" : Cond) ∈ bigW) (hd : decode cc pc = .ok (.getstatic idx, 3)) (kk : W p l e R s mi args below meth c H locs cells slots Q (F0 mi (pc + 3) ls (.int 1 :: rest))) : W p l e R s mi args below meth c H locs cells slots Q (F0 mi pc ls rest) :=
  va_gets C.1 C.2.1 C.2.2.2.2.2.2.1.2.1 hW.2 C.2.2.2.1 (C.2.2.2.2.1 _ hl) (fun _ h => h) hd kk
theorem zs_sio (C : Cx X p s mi args c own cc nL) (hW : Wd X s m H locs) {idx : Nat} (hl : (.fieldLink own idx "jdk/internal/util/Preconditions" "SIOOBE_FORMATTER" "Ljava/util/function/BiFunction;" : Cond) ∈ bigW) (hd : decode cc pc = .ok (.getstatic idx, 3)) (kk : ∀ o : Value, o.category = 1 → W p l e R s mi args below meth c H locs cells slots Q (F0 mi (pc + 3) ls (o :: rest))) : W p l e R s mi args below meth c H locs cells slots Q (F0 mi pc ls rest) := by
  rcases C.2.2.2.2.2.2.1.2.2 with hz | ⟨t, hz⟩
  · exact va_gets C.1 C.2.1 hz hW.2 C.2.2.2.1 (C.2.2.2.2.1 _ hl) (fun _ h => h) hd (kk _ rfl)
  · exact va_gets C.1 C.2.1 hz hW.2 C.2.2.2.1 (C.2.2.2.2.1 _ hl) (fun _ h => h) hd (kk _ rfl)
theorem zs_recv (C : Cx X p s mi args c own cc nL) (hW : Wd X s m H locs) {i : Nat} (hi : i < 6) : ∃ cell : Cell, H[adK X i]? = some cell ∧ cell.vm.isStatics = false ∧ s.vm.findClass RJ0 = some cell.cls := vk_recv C.2.2.2.2.2.2.1.1 hi hW.2
theorem zs_ldc (C : Cx X p s mi args c own cc nL) {idx q : Nat} {tx : String} (hZ : vk_R own idx tx q s) (hd : decode cc pc = .ok (.ldc idx, 2)) (kk : W p l e R s mi args below meth c H locs cells slots Q (F0 mi (pc + 2) ls (.ref q :: rest))) : W p l e R s mi args below meth c H locs cells slots Q (F0 mi pc ls rest) := va_ldcS C.1 C.2.1 C.2.2.2.1 hZ hd kk
end STRS
theorem lg_len3 {x0 x1 : Int32} {o : Value} (h : o.category = 1) : (lg_sl [.int x0, .int x1, o]).length ≤ 3 := by
  have e : lg_sl [.int x0, .int x1, o] = Slot.val (.int x0) :: Slot.val (.int x1) :: ((if o.category = 2 then [Slot.val o, Slot.second] else [Slot.val o]) ++ []) := rfl
  rw [e, h]
  simp
