theorem dX9_in_0 : decode cX9_in 0 = .ok (.iload_n 0, 1) := by decide +kernel
theorem dX9_in_1 : decode cX9_in 1 = .ok (.iload_n 1, 1) := by decide +kernel
theorem dX9_in_2 : decode cX9_in 2 = .ok (.if_icmp .lt 12, 3) := by decide +kernel
theorem dX9_in_5 : decode cX9_in 5 = .ok (.iload_n 0, 1) := by decide +kernel
theorem dX9_in_6 : decode cX9_in 6 = .ok (.iload_n 2, 1) := by decide +kernel
theorem dX9_in_7 : decode cX9_in 7 = .ok (.if_icmp .gt 7, 3) := by decide +kernel
theorem dX9_in_10 : decode cX9_in 10 = .ok (.iconst 1, 1) := by decide +kernel
theorem dX9_in_11 : decode cX9_in 11 = .ok (.goto 4, 3) := by decide +kernel
theorem dX9_in_14 : decode cX9_in 14 = .ok (.iconst 0, 1) := by decide +kernel
theorem dX9_in_15 : decode cX9_in 15 = .ok (.ireturn, 1) := by decide +kernel
def f_X9_in (fu : Nat)  (x0 : Int32) (x1 : Int32) (x2 : Int32) (m : Mem) : Option (Int32 × Mem) := if x0 < x1 then (some (0, m)) else (if x2 < x0 then (some (0, m)) else (some (1, m)))
set_option maxHeartbeats 4000000 in
set_option maxRecDepth 100000 in
theorem w_X9_in {X : TX} {p : Program} {l : Launch} {e : Env} {s : State} {mi : MethodId} {args : Array Value} {below : List Frame} {meth : Method} {c : Code} {Q : State → Prop} {r : Int32} {mE : Mem} (C : Cx X p s mi args c RX9 cX9_in 3) (hq : RetI X p l e (rmD 0) s mi args below meth c cX9_in .boolean Q r mE) {fu : Nat} {x0 : Int32} {x1 : Int32} {x2 : Int32} {m : Mem} {H : Heap} {locs : List Loc} {ls : Array Slot} (h : f_X9_in fu x0 x1 x2 m = some (r, mE))  (hW : Wd X s m H locs) (hl : lv_has ls 3 [(0, .int x0), (1, .int x1), (2, .int x2)]) : W p l e (rmD 0) s mi args below meth c H locs 0 0 Q (F0 mi 0 ls []) := by
  unfold f_X9_in at h
  refine lv_iload_n C.1 C.2.1 dX9_in_0 rfl (lv_at hl 0 rfl) ?_
  refine lv_iload_n C.1 C.2.1 dX9_in_1 rfl (lv_at hl 1 rfl) ?_
  refine lv_icmp_lt (tgt := 14) C.1 C.2.1 dX9_in_2 (by decide) (fun hc_2 => ?_) (fun hc_2 => ?_)
  · have h := ite_t hc_2 h
    refine lv_iconst (v := 0) C.1 C.2.1 dX9_in_14 rfl ?_
    exact ret_i h hq rfl hW dX9_in_15
  · have h := ite_f hc_2 h
    refine lv_iload_n C.1 C.2.1 dX9_in_5 rfl (lv_at hl 0 rfl) ?_
    refine lv_iload_n C.1 C.2.1 dX9_in_6 rfl (lv_at hl 2 rfl) ?_
    refine lv_icmp_gt (tgt := 14) C.1 C.2.1 dX9_in_7 (by decide) (fun hc_1 => ?_) (fun hc_1 => ?_)
    · have h := ite_t hc_1 h
      refine lv_iconst (v := 0) C.1 C.2.1 dX9_in_14 rfl ?_
      exact ret_i h hq rfl hW dX9_in_15
    · have h := ite_f hc_1 h
      refine lv_iconst (v := 1) C.1 C.2.1 dX9_in_10 rfl ?_
      refine lv_goto (tgt := 15) C.1 C.2.1 dX9_in_11 (by decide) ?_
      exact ret_i h hq rfl hW dX9_in_15
theorem c_X9_in {X : TX} {l : Launch} {fu : Nat} {x0 : Int32} {x1 : Int32} {x2 : Int32} {m mE : Mem} {r : Int32} (h : f_X9_in fu x0 x1 x2 m = some (r, mE))  : MetI X l yX9_in cX9_in 3 .boolean 0 [.int x0, .int x1, .int x2] m r mE :=
  met_I (by decide) (Nat.le_of_ble_eq_true rfl) (fun p e s mi args below meth c ls Q C hq hW hl => w_X9_in C hq h  hW (lv_sub hl [0, 1, 2] rfl))
theorem k_X9_in : CalS yX9_in cX9_in 3 (some .boolean) 3 := ⟨w_1118, w_70, w_1119, by decide +kernel⟩
theorem dX9_within_0 : decode cX9_within 0 = .ok (.iload_n 0, 1) := by decide +kernel
theorem dX9_within_1 : decode cX9_within 1 = .ok (.iload_n 1, 1) := by decide +kernel
theorem dX9_within_2 : decode cX9_within 2 = .ok (.if_icmp .ge 7, 3) := by decide +kernel
theorem dX9_within_5 : decode cX9_within 5 = .ok (.iload_n 1, 1) := by decide +kernel
theorem dX9_within_6 : decode cX9_within 6 = .ok (.goto 13, 3) := by decide +kernel
theorem dX9_within_9 : decode cX9_within 9 = .ok (.iload_n 0, 1) := by decide +kernel
theorem dX9_within_10 : decode cX9_within 10 = .ok (.iload_n 2, 1) := by decide +kernel
theorem dX9_within_11 : decode cX9_within 11 = .ok (.if_icmp .le 7, 3) := by decide +kernel
theorem dX9_within_14 : decode cX9_within 14 = .ok (.iload_n 2, 1) := by decide +kernel
theorem dX9_within_15 : decode cX9_within 15 = .ok (.goto 4, 3) := by decide +kernel
theorem dX9_within_18 : decode cX9_within 18 = .ok (.iload_n 0, 1) := by decide +kernel
theorem dX9_within_19 : decode cX9_within 19 = .ok (.ireturn, 1) := by decide +kernel
def f_X9_within (fu : Nat)  (x0 : Int32) (x1 : Int32) (x2 : Int32) (m : Mem) : Option (Int32 × Mem) := if x1 ≤ x0 then (if x0 ≤ x2 then (some (x0, m)) else (some (x2, m))) else (some (x1, m))
set_option maxHeartbeats 4000000 in
set_option maxRecDepth 100000 in
theorem w_X9_within {X : TX} {p : Program} {l : Launch} {e : Env} {s : State} {mi : MethodId} {args : Array Value} {below : List Frame} {meth : Method} {c : Code} {Q : State → Prop} {r : Int32} {mE : Mem} (C : Cx X p s mi args c RX9 cX9_within 3) (hq : RetI X p l e (rmD 0) s mi args below meth c cX9_within .int Q r mE) {fu : Nat} {x0 : Int32} {x1 : Int32} {x2 : Int32} {m : Mem} {H : Heap} {locs : List Loc} {ls : Array Slot} (h : f_X9_within fu x0 x1 x2 m = some (r, mE))  (hW : Wd X s m H locs) (hl : lv_has ls 3 [(0, .int x0), (1, .int x1), (2, .int x2)]) : W p l e (rmD 0) s mi args below meth c H locs 0 0 Q (F0 mi 0 ls []) := by
  unfold f_X9_within at h
  refine lv_iload_n C.1 C.2.1 dX9_within_0 rfl (lv_at hl 0 rfl) ?_
  refine lv_iload_n C.1 C.2.1 dX9_within_1 rfl (lv_at hl 1 rfl) ?_
  refine lv_icmp_ge (tgt := 9) C.1 C.2.1 dX9_within_2 (by decide) (fun hc_2 => ?_) (fun hc_2 => ?_)
  · have h := ite_t hc_2 h
    refine lv_iload_n C.1 C.2.1 dX9_within_9 rfl (lv_at hl 0 rfl) ?_
    refine lv_iload_n C.1 C.2.1 dX9_within_10 rfl (lv_at hl 2 rfl) ?_
    refine lv_icmp_le (tgt := 18) C.1 C.2.1 dX9_within_11 (by decide) (fun hc_1 => ?_) (fun hc_1 => ?_)
    · have h := ite_t hc_1 h
      refine lv_iload_n C.1 C.2.1 dX9_within_18 rfl (lv_at hl 0 rfl) ?_
      exact ret_i h hq rfl hW dX9_within_19
    · have h := ite_f hc_1 h
      refine lv_iload_n C.1 C.2.1 dX9_within_14 rfl (lv_at hl 2 rfl) ?_
      refine lv_goto (tgt := 19) C.1 C.2.1 dX9_within_15 (by decide) ?_
      exact ret_i h hq rfl hW dX9_within_19
  · have h := ite_f hc_2 h
    refine lv_iload_n C.1 C.2.1 dX9_within_5 rfl (lv_at hl 1 rfl) ?_
    refine lv_goto (tgt := 19) C.1 C.2.1 dX9_within_6 (by decide) ?_
    exact ret_i h hq rfl hW dX9_within_19
theorem c_X9_within {X : TX} {l : Launch} {fu : Nat} {x0 : Int32} {x1 : Int32} {x2 : Int32} {m mE : Mem} {r : Int32} (h : f_X9_within fu x0 x1 x2 m = some (r, mE))  : MetI X l yX9_within cX9_within 3 .int 0 [.int x0, .int x1, .int x2] m r mE :=
  met_I (by decide) (Nat.le_of_ble_eq_true rfl) (fun p e s mi args below meth c ls Q C hq hW hl => w_X9_within C hq h  hW (lv_sub hl [0, 1, 2] rfl))
theorem k_X9_within : CalS yX9_within cX9_within 3 (some .int) 3 := ⟨w_1211, w_70, w_1212, by decide +kernel⟩
theorem dX9_copyAll_0 : decode cX9_copyAll 0 = .ok (.iconst 0, 1) := by decide +kernel
theorem dX9_copyAll_1 : decode cX9_copyAll 1 = .ok (.istore_n 2, 1) := by decide +kernel
theorem dX9_copyAll_2 : decode cX9_copyAll 2 = .ok (.iload_n 2, 1) := by decide +kernel
theorem dX9_copyAll_3 : decode cX9_copyAll 3 = .ok (.sipush 1423, 3) := by decide +kernel
theorem dX9_copyAll_6 : decode cX9_copyAll 6 = .ok (.if_icmp .ge 15, 3) := by decide +kernel
theorem dX9_copyAll_9 : decode cX9_copyAll 9 = .ok (.aload_n 1, 1) := by decide +kernel
theorem dX9_copyAll_10 : decode cX9_copyAll 10 = .ok (.iload_n 2, 1) := by decide +kernel
theorem dX9_copyAll_11 : decode cX9_copyAll 11 = .ok (.aload_n 0, 1) := by decide +kernel
theorem dX9_copyAll_12 : decode cX9_copyAll 12 = .ok (.iload_n 2, 1) := by decide +kernel
theorem dX9_copyAll_13 : decode cX9_copyAll 13 = .ok (.iaload, 1) := by decide +kernel
theorem dX9_copyAll_14 : decode cX9_copyAll 14 = .ok (.iastore, 1) := by decide +kernel
theorem dX9_copyAll_15 : decode cX9_copyAll 15 = .ok (.iinc 2 1, 3) := by decide +kernel
theorem dX9_copyAll_18 : decode cX9_copyAll 18 = .ok (.goto (-16), 3) := by decide +kernel
theorem dX9_copyAll_21 : decode cX9_copyAll 21 = .ok (.return_, 1) := by decide +kernel
def f_X9_copyAll_2 (fu : Nat)  : Nat → Nat → Nat → Int32 → Mem → Option Mem
  | 0, _, _, _, _ => none
  | n + 1, i0, i1, x2, m => if 1423 ≤ x2 then (some m) else (chk (inb x2 1423) (chk (inb x2 1423) (seqM (upd m ((4000 + 1500 * i1) + x2.toNatClampNeg) (m ((4000 + 1500 * i0) + x2.toNatClampNeg))) (fun m_3 : Mem => seqM (x2 + 1) (fun x_5 : Int32 => f_X9_copyAll_2 fu n i0 i1 x_5 m_3)))))
set_option maxHeartbeats 4000000 in
set_option maxRecDepth 100000 in
theorem w_X9_copyAll_2 {X : TX} {p : Program} {l : Launch} {e : Env} {s : State} {mi : MethodId} {args : Array Value} {below : List Frame} {meth : Method} {c : Code} {Q : State → Prop} {mE : Mem} (C : Cx X p s mi args c RX9 cX9_copyAll 3) (hq : RetV X p l e (rmD 0) s mi args below meth c cX9_copyAll Q mE) {fu : Nat} : ∀ (n : Nat) {i0 : Nat} {i1 : Nat} {x2 : Int32} {m : Mem} {H : Heap} {locs : List Loc} {ls : Array Slot}, f_X9_copyAll_2 fu n i0 i1 x2 m = some mE → (21, i0) ∈ ids → (21, i1) ∈ ids → Wd X s m H locs → lv_has ls 3 [(0, .ref (ad X 21 i0)), (1, .ref (ad X 21 i1)), (2, .int x2)] → W p l e (rmD 0) s mi args below meth c H locs 0 0 Q (F0 mi 2 ls []) := by
  intro n
  induction n with
  | zero =>
    intro i0 i1 x2 m H locs ls h g_i0 g_i1 hW hl
    rw [f_X9_copyAll_2] at h
    cases h
  | succ n ih =>
    intro i0 i1 x2 m H locs ls h g_i0 g_i1 hW hl
    rw [f_X9_copyAll_2] at h
    refine lv_iload_n C.1 C.2.1 dX9_copyAll_2 rfl (lv_at hl 2 rfl) ?_
    refine lv_sipush (v := 1423) C.1 C.2.1 dX9_copyAll_3 rfl ?_
    refine lv_icmp_ge (tgt := 21) C.1 C.2.1 dX9_copyAll_6 (by decide) (fun hc_7 => ?_) (fun hc_7 => ?_)
    · have h := ite_t hc_7 h
      exact ret_v h hq hW dX9_copyAll_21
    · have h := ite_f hc_7 h
      refine lv_aload_n C.1 C.2.1 dX9_copyAll_9 rfl (lv_at hl 1 rfl) ?_
      refine lv_iload_n C.1 C.2.1 dX9_copyAll_10 rfl (lv_at hl 2 rfl) ?_
      refine lv_aload_n C.1 C.2.1 dX9_copyAll_11 rfl (lv_at hl 0 rfl) ?_
      refine lv_iload_n C.1 C.2.1 dX9_copyAll_12 rfl (lv_at hl 2 rfl) ?_
      obtain ⟨hb_1, h⟩ := chk_E h
      refine zal_21 C hW g_i0 (inb_E hb_1) dX9_copyAll_13 ?_
      obtain ⟨hb_2, h⟩ := chk_E h
      obtain ⟨m_3, e_4, h⟩ := seqM_E h
      refine zas_21 C hW g_i1 (inb_E hb_2) e_4 dX9_copyAll_14 (fun H locs hW => ?_)
      obtain ⟨x_5, e_6, h⟩ := seqM_E h
      refine lv_iinc (v := x_5) (lv' := [(2, .int x_5), (0, .ref (ad X 21 i0)), (1, .ref (ad X 21 i1))]) C.1 C.2.1 dX9_copyAll_15 hl (k := 2) rfl (by rw [e_6]; rfl) (by decide) rfl (fun ls hl => ?_)
      refine lv_goto (tgt := 2) C.1 C.2.1 dX9_copyAll_18 (by decide) ?_
      exact ih h g_i0 g_i1 hW (lv_sub hl [1, 2, 0] rfl)
def f_X9_copyAll (fu : Nat)  (i0 : Nat) (i1 : Nat) (m : Mem) : Option Mem := f_X9_copyAll_2 fu fu i0 i1 0 m
set_option maxHeartbeats 4000000 in
set_option maxRecDepth 100000 in
theorem w_X9_copyAll {X : TX} {p : Program} {l : Launch} {e : Env} {s : State} {mi : MethodId} {args : Array Value} {below : List Frame} {meth : Method} {c : Code} {Q : State → Prop} {mE : Mem} (C : Cx X p s mi args c RX9 cX9_copyAll 3) (hq : RetV X p l e (rmD 0) s mi args below meth c cX9_copyAll Q mE) {fu : Nat} {i0 : Nat} {i1 : Nat} {m : Mem} {H : Heap} {locs : List Loc} {ls : Array Slot} (h : f_X9_copyAll fu i0 i1 m = some mE) (g_i0 : (21, i0) ∈ ids) (g_i1 : (21, i1) ∈ ids) (hW : Wd X s m H locs) (hl : lv_has ls 3 [(0, .ref (ad X 21 i0)), (1, .ref (ad X 21 i1))]) : W p l e (rmD 0) s mi args below meth c H locs 0 0 Q (F0 mi 0 ls []) := by
  unfold f_X9_copyAll at h
  refine lv_iconst (v := 0) C.1 C.2.1 dX9_copyAll_0 rfl ?_
  refine lv_istore_n (lv' := [(2, .int 0), (0, .ref (ad X 21 i0)), (1, .ref (ad X 21 i1))]) C.1 C.2.1 dX9_copyAll_1 rfl hl (by decide) rfl (fun ls hl => ?_)
  exact w_X9_copyAll_2 C hq  fu h g_i0 g_i1 hW (lv_sub hl [1, 2, 0] rfl)
theorem c_X9_copyAll {X : TX} {l : Launch} {fu : Nat} {i0 : Nat} {i1 : Nat} {m mE : Mem} (h : f_X9_copyAll fu i0 i1 m = some mE) (g_i0 : (21, i0) ∈ ids) (g_i1 : (21, i1) ∈ ids) : MetV X l yX9_copyAll cX9_copyAll 3 0 [.ref (ad X 21 i0), .ref (ad X 21 i1)] m mE :=
  met_V (by decide) (Nat.le_of_ble_eq_true rfl) (fun p e s mi args below meth c ls Q C hq hW hl => w_X9_copyAll C hq h g_i0 g_i1 hW (lv_sub hl [0, 1] rfl))
theorem k_X9_copyAll : CalS yX9_copyAll cX9_copyAll 3 none 2 := ⟨w_1448, w_70, w_1449, by decide +kernel⟩
theorem dX9_isVoice_0 : decode cX9_isVoice 0 = .ok (.iload_n 1, 1) := by decide +kernel
theorem dX9_isVoice_1 : decode cX9_isVoice 1 = .ok (.iconst 0, 1) := by decide +kernel
theorem dX9_isVoice_2 : decode cX9_isVoice 2 = .ok (.aload_n 0, 1) := by decide +kernel
theorem dX9_isVoice_3 : decode cX9_isVoice 3 = .ok (.getfield 9, 3) := by decide +kernel
theorem dX9_isVoice_6 : decode cX9_isVoice 6 = .ok (.iconst 1, 1) := by decide +kernel
theorem dX9_isVoice_7 : decode cX9_isVoice 7 = .ok (.iaload, 1) := by decide +kernel
theorem dX9_isVoice_8 : decode cX9_isVoice 8 = .ok (.iconst 1, 1) := by decide +kernel
theorem dX9_isVoice_9 : decode cX9_isVoice 9 = .ok (.isub, 1) := by decide +kernel
theorem dX9_isVoice_10 : decode cX9_isVoice 10 = .ok (.invokestatic 79, 3) := by decide +kernel
theorem dX9_isVoice_13 : decode cX9_isVoice 13 = .ok (.ireturn, 1) := by decide +kernel
def f_X9_isVoice (fu : Nat)  (x1 : Int32) (m : Mem) : Option (Int32 × Mem) := doI (f_X9_in fu x1 0 ((m ((4000 + 1500 * 0) + (1 : Int32).toNatClampNeg)) - 1) m) (fun r_3 m_2 => chk (isB r_3) (some (r_3, m_2)))
set_option maxHeartbeats 4000000 in
set_option maxRecDepth 100000 in
theorem w_X9_isVoice {X : TX} {p : Program} {l : Launch} {e : Env} {s : State} {mi : MethodId} {args : Array Value} {below : List Frame} {meth : Method} {c : Code} {Q : State → Prop} {r : Int32} {mE : Mem} (C : Cx X p s mi args c RX9 cX9_isVoice 2) (hq : RetI X p l e (rmD 1) s mi args below meth c cX9_isVoice .boolean Q r mE) {fu : Nat} {x1 : Int32} {m : Mem} {H : Heap} {locs : List Loc} {ls : Array Slot} (h : f_X9_isVoice fu x1 m = some (r, mE))  (hW : Wd X s m H locs) (hl : lv_has ls 2 [(0, .ref (ad X 20 0)), (1, .int x1)]) : W p l e (rmD 1) s mi args below meth c H locs 0 0 Q (F0 mi 0 ls []) := by
  unfold f_X9_isVoice at h
  refine lv_iload_n C.1 C.2.1 dX9_isVoice_0 rfl (lv_at hl 1 rfl) ?_
  refine lv_iconst (v := 0) C.1 C.2.1 dX9_isVoice_1 rfl ?_
  refine lv_aload_n C.1 C.2.1 dX9_isVoice_2 rfl (lv_at hl 0 rfl) ?_
  refine zg_X9_now C hW id_20 w_1004 dX9_isVoice_3 ?_
  refine lv_iconst (v := 1) C.1 C.2.1 dX9_isVoice_6 rfl ?_
  refine zal_21 C hW id_21_0 (inb_E (by decide)) dX9_isVoice_7 ?_
  refine lv_iconst (v := 1) C.1 C.2.1 dX9_isVoice_8 rfl ?_
  refine lv_isub C.1 C.2.1 dX9_isVoice_9 ?_
  obtain ⟨r_3, m_2, hc_1, h⟩ := doI_E h
  refine zr_cSI C hW (c_X9_in (x0 := x1) (x1 := 0) (x2 := ((m ((4000 + 1500 * 0) + (1 : Int32).toNatClampNeg)) - 1)) hc_1 ) k_X9_in w_1117 ⟨Nat.le_of_ble_eq_true rfl, Nat.le_of_ble_eq_true rfl⟩ ⟨Nat.le_refl 0, Nat.le_refl 0⟩ rfl hl.1 rfl (Nat.le_of_ble_eq_true rfl) dX9_isVoice_10 (fun H locs hW => ?_)
  obtain ⟨hb_4, h⟩ := chk_E h
  exact ret_i h hq (nar_B (isB_E hb_4)) hW dX9_isVoice_13
theorem c_X9_isVoice {X : TX} {l : Launch} {fu : Nat} {x1 : Int32} {m mE : Mem} {r : Int32} (h : f_X9_isVoice fu x1 m = some (r, mE))  : MetI X l yX9_isVoice cX9_isVoice 2 .boolean 1 [.ref (ad X 20 0), .int x1] m r mE :=
  met_I (by decide) (Nat.le_of_ble_eq_true rfl) (fun p e s mi args below meth c ls Q C hq hW hl => w_X9_isVoice C hq h  hW (lv_sub hl [0, 1] rfl))
theorem k_X9_isVoice : CalV yX9_isVoice cX9_isVoice 2 (some .boolean) RX9 1 := ⟨w_1139, w_27, w_70, w_1140, by decide +kernel⟩
theorem dX9_of_0 : decode cX9_of 0 = .ok (.aload_n 0, 1) := by decide +kernel
theorem dX9_of_1 : decode cX9_of 1 = .ok (.getfield 9, 3) := by decide +kernel
theorem dX9_of_4 : decode cX9_of 4 = .ok (.bipush 16, 2) := by decide +kernel
theorem dX9_of_6 : decode cX9_of 6 = .ok (.bipush 7, 2) := by decide +kernel
theorem dX9_of_8 : decode cX9_of 8 = .ok (.iload_n 1, 1) := by decide +kernel
theorem dX9_of_9 : decode cX9_of 9 = .ok (.imul, 1) := by decide +kernel
theorem dX9_of_10 : decode cX9_of 10 = .ok (.iadd, 1) := by decide +kernel
theorem dX9_of_11 : decode cX9_of 11 = .ok (.iload_n 2, 1) := by decide +kernel
theorem dX9_of_12 : decode cX9_of 12 = .ok (.iadd, 1) := by decide +kernel
theorem dX9_of_13 : decode cX9_of 13 = .ok (.iaload, 1) := by decide +kernel
theorem dX9_of_14 : decode cX9_of 14 = .ok (.ireturn, 1) := by decide +kernel
def f_X9_of (fu : Nat)  (x1 : Int32) (x2 : Int32) (m : Mem) : Option (Int32 × Mem) := chk (inb ((16 + (7 * x1)) + x2) 1423) (some ((m ((4000 + 1500 * 0) + ((16 + (7 * x1)) + x2).toNatClampNeg)), m))
set_option maxHeartbeats 4000000 in
set_option maxRecDepth 100000 in
theorem w_X9_of {X : TX} {p : Program} {l : Launch} {e : Env} {s : State} {mi : MethodId} {args : Array Value} {below : List Frame} {meth : Method} {c : Code} {Q : State → Prop} {r : Int32} {mE : Mem} (C : Cx X p s mi args c RX9 cX9_of 3) (hq : RetI X p l e (rmD 0) s mi args below meth c cX9_of .int Q r mE) {fu : Nat} {x1 : Int32} {x2 : Int32} {m : Mem} {H : Heap} {locs : List Loc} {ls : Array Slot} (h : f_X9_of fu x1 x2 m = some (r, mE))  (hW : Wd X s m H locs) (hl : lv_has ls 3 [(0, .ref (ad X 20 0)), (1, .int x1), (2, .int x2)]) : W p l e (rmD 0) s mi args below meth c H locs 0 0 Q (F0 mi 0 ls []) := by
  unfold f_X9_of at h
  refine lv_aload_n C.1 C.2.1 dX9_of_0 rfl (lv_at hl 0 rfl) ?_
  refine zg_X9_now C hW id_20 w_1004 dX9_of_1 ?_
  refine lv_bipush (v := 16) C.1 C.2.1 dX9_of_4 rfl ?_
  refine lv_bipush (v := 7) C.1 C.2.1 dX9_of_6 rfl ?_
  refine lv_iload_n C.1 C.2.1 dX9_of_8 rfl (lv_at hl 1 rfl) ?_
  refine lv_imul C.1 C.2.1 dX9_of_9 ?_
  refine lv_iadd C.1 C.2.1 dX9_of_10 ?_
  refine lv_iload_n C.1 C.2.1 dX9_of_11 rfl (lv_at hl 2 rfl) ?_
  refine lv_iadd C.1 C.2.1 dX9_of_12 ?_
  obtain ⟨hb_1, h⟩ := chk_E h
  refine zal_21 C hW id_21_0 (inb_E hb_1) dX9_of_13 ?_
  exact ret_i h hq rfl hW dX9_of_14
theorem c_X9_of {X : TX} {l : Launch} {fu : Nat} {x1 : Int32} {x2 : Int32} {m mE : Mem} {r : Int32} (h : f_X9_of fu x1 x2 m = some (r, mE))  : MetI X l yX9_of cX9_of 3 .int 0 [.ref (ad X 20 0), .int x1, .int x2] m r mE :=
  met_I (by decide) (Nat.le_of_ble_eq_true rfl) (fun p e s mi args below meth c ls Q C hq hW hl => w_X9_of C hq h  hW (lv_sub hl [0, 1, 2] rfl))
theorem k_X9_of : CalV yX9_of cX9_of 3 (some .int) RX9 2 := ⟨w_1143, w_28, w_70, w_1144, by decide +kernel⟩
theorem dX9_put_0 : decode cX9_put 0 = .ok (.aload_n 0, 1) := by decide +kernel
theorem dX9_put_1 : decode cX9_put 1 = .ok (.getfield 9, 3) := by decide +kernel
theorem dX9_put_4 : decode cX9_put 4 = .ok (.bipush 16, 2) := by decide +kernel
theorem dX9_put_6 : decode cX9_put 6 = .ok (.bipush 7, 2) := by decide +kernel
theorem dX9_put_8 : decode cX9_put 8 = .ok (.iload_n 1, 1) := by decide +kernel
theorem dX9_put_9 : decode cX9_put 9 = .ok (.imul, 1) := by decide +kernel
theorem dX9_put_10 : decode cX9_put 10 = .ok (.iadd, 1) := by decide +kernel
theorem dX9_put_11 : decode cX9_put 11 = .ok (.iload_n 2, 1) := by decide +kernel
theorem dX9_put_12 : decode cX9_put 12 = .ok (.iadd, 1) := by decide +kernel
theorem dX9_put_13 : decode cX9_put 13 = .ok (.iload_n 3, 1) := by decide +kernel
theorem dX9_put_14 : decode cX9_put 14 = .ok (.iastore, 1) := by decide +kernel
theorem dX9_put_15 : decode cX9_put 15 = .ok (.return_, 1) := by decide +kernel
def f_X9_put (fu : Nat)  (x1 : Int32) (x2 : Int32) (x3 : Int32) (m : Mem) : Option Mem := chk (inb ((16 + (7 * x1)) + x2) 1423) (seqM (upd m ((4000 + 1500 * 0) + ((16 + (7 * x1)) + x2).toNatClampNeg) x3) (fun m_2 : Mem => some m_2))
set_option maxHeartbeats 4000000 in
set_option maxRecDepth 100000 in
theorem w_X9_put {X : TX} {p : Program} {l : Launch} {e : Env} {s : State} {mi : MethodId} {args : Array Value} {below : List Frame} {meth : Method} {c : Code} {Q : State → Prop} {mE : Mem} (C : Cx X p s mi args c RX9 cX9_put 4) (hq : RetV X p l e (rmD 0) s mi args below meth c cX9_put Q mE) {fu : Nat} {x1 : Int32} {x2 : Int32} {x3 : Int32} {m : Mem} {H : Heap} {locs : List Loc} {ls : Array Slot} (h : f_X9_put fu x1 x2 x3 m = some mE)  (hW : Wd X s m H locs) (hl : lv_has ls 4 [(0, .ref (ad X 20 0)), (1, .int x1), (2, .int x2), (3, .int x3)]) : W p l e (rmD 0) s mi args below meth c H locs 0 0 Q (F0 mi 0 ls []) := by
  unfold f_X9_put at h
  refine lv_aload_n C.1 C.2.1 dX9_put_0 rfl (lv_at hl 0 rfl) ?_
  refine zg_X9_now C hW id_20 w_1004 dX9_put_1 ?_
  refine lv_bipush (v := 16) C.1 C.2.1 dX9_put_4 rfl ?_
  refine lv_bipush (v := 7) C.1 C.2.1 dX9_put_6 rfl ?_
  refine lv_iload_n C.1 C.2.1 dX9_put_8 rfl (lv_at hl 1 rfl) ?_
  refine lv_imul C.1 C.2.1 dX9_put_9 ?_
  refine lv_iadd C.1 C.2.1 dX9_put_10 ?_
  refine lv_iload_n C.1 C.2.1 dX9_put_11 rfl (lv_at hl 2 rfl) ?_
  refine lv_iadd C.1 C.2.1 dX9_put_12 ?_
  refine lv_iload_n C.1 C.2.1 dX9_put_13 rfl (lv_at hl 3 rfl) ?_
  obtain ⟨hb_1, h⟩ := chk_E h
  obtain ⟨m_2, e_3, h⟩ := seqM_E h
  refine zas_21 C hW id_21_0 (inb_E hb_1) e_3 dX9_put_14 (fun H locs hW => ?_)
  exact ret_v h hq hW dX9_put_15
theorem c_X9_put {X : TX} {l : Launch} {fu : Nat} {x1 : Int32} {x2 : Int32} {x3 : Int32} {m mE : Mem} (h : f_X9_put fu x1 x2 x3 m = some mE)  : MetV X l yX9_put cX9_put 4 0 [.ref (ad X 20 0), .int x1, .int x2, .int x3] m mE :=
  met_V (by decide) (Nat.le_of_ble_eq_true rfl) (fun p e s mi args below meth c ls Q C hq hW hl => w_X9_put C hq h  hW (lv_sub hl [0, 1, 2, 3] rfl))
theorem k_X9_put : CalV yX9_put cX9_put 4 none RX9 3 := ⟨w_1131, w_26, w_70, w_1132, by decide +kernel⟩
theorem dX9_swaps_0 : decode cX9_swaps 0 = .ok (.aload_n 0, 1) := by decide +kernel
theorem dX9_swaps_1 : decode cX9_swaps 1 = .ok (.getfield 9, 3) := by decide +kernel
theorem dX9_swaps_4 : decode cX9_swaps 4 = .ok (.iload_n 1, 1) := by decide +kernel
theorem dX9_swaps_5 : decode cX9_swaps 5 = .ok (.iaload, 1) := by decide +kernel
theorem dX9_swaps_6 : decode cX9_swaps 6 = .ok (.istore_n 3, 1) := by decide +kernel
theorem dX9_swaps_7 : decode cX9_swaps 7 = .ok (.aload_n 0, 1) := by decide +kernel
theorem dX9_swaps_8 : decode cX9_swaps 8 = .ok (.getfield 9, 3) := by decide +kernel
theorem dX9_swaps_11 : decode cX9_swaps 11 = .ok (.iload_n 1, 1) := by decide +kernel
theorem dX9_swaps_12 : decode cX9_swaps 12 = .ok (.iload_n 2, 1) := by decide +kernel
theorem dX9_swaps_13 : decode cX9_swaps 13 = .ok (.iastore, 1) := by decide +kernel
theorem dX9_swaps_14 : decode cX9_swaps 14 = .ok (.iload_n 3, 1) := by decide +kernel
theorem dX9_swaps_15 : decode cX9_swaps 15 = .ok (.ireturn, 1) := by decide +kernel
def f_X9_swaps (fu : Nat)  (x1 : Int32) (x2 : Int32) (m : Mem) : Option (Int32 × Mem) := chk (inb x1 1423) (seqM (m ((4000 + 1500 * 0) + x1.toNatClampNeg)) (fun x_2 : Int32 => chk (inb x1 1423) (seqM (upd m ((4000 + 1500 * 0) + x1.toNatClampNeg) x2) (fun m_5 : Mem => some (x_2, m_5)))))
set_option maxHeartbeats 4000000 in
set_option maxRecDepth 100000 in
theorem w_X9_swaps {X : TX} {p : Program} {l : Launch} {e : Env} {s : State} {mi : MethodId} {args : Array Value} {below : List Frame} {meth : Method} {c : Code} {Q : State → Prop} {r : Int32} {mE : Mem} (C : Cx X p s mi args c RX9 cX9_swaps 4) (hq : RetI X p l e (rmD 0) s mi args below meth c cX9_swaps .int Q r mE) {fu : Nat} {x1 : Int32} {x2 : Int32} {m : Mem} {H : Heap} {locs : List Loc} {ls : Array Slot} (h : f_X9_swaps fu x1 x2 m = some (r, mE))  (hW : Wd X s m H locs) (hl : lv_has ls 4 [(0, .ref (ad X 20 0)), (1, .int x1), (2, .int x2)]) : W p l e (rmD 0) s mi args below meth c H locs 0 0 Q (F0 mi 0 ls []) := by
  unfold f_X9_swaps at h
  refine lv_aload_n C.1 C.2.1 dX9_swaps_0 rfl (lv_at hl 0 rfl) ?_
  refine zg_X9_now C hW id_20 w_1004 dX9_swaps_1 ?_
  refine lv_iload_n C.1 C.2.1 dX9_swaps_4 rfl (lv_at hl 1 rfl) ?_
  obtain ⟨hb_1, h⟩ := chk_E h
  refine zal_21 C hW id_21_0 (inb_E hb_1) dX9_swaps_5 ?_
  obtain ⟨x_2, e_3, h⟩ := seqM_E h
  refine lv_name e_3 ?_
  refine lv_istore_n (lv' := [(3, .int x_2), (0, .ref (ad X 20 0)), (1, .int x1), (2, .int x2)]) C.1 C.2.1 dX9_swaps_6 rfl hl (by decide) rfl (fun ls hl => ?_)
  refine lv_aload_n C.1 C.2.1 dX9_swaps_7 rfl (lv_at hl 1 rfl) ?_
  refine zg_X9_now C hW id_20 w_1004 dX9_swaps_8 ?_
  refine lv_iload_n C.1 C.2.1 dX9_swaps_11 rfl (lv_at hl 2 rfl) ?_
  refine lv_iload_n C.1 C.2.1 dX9_swaps_12 rfl (lv_at hl 3 rfl) ?_
  obtain ⟨hb_4, h⟩ := chk_E h
  obtain ⟨m_5, e_6, h⟩ := seqM_E h
  refine zas_21 C hW id_21_0 (inb_E hb_4) e_6 dX9_swaps_13 (fun H locs hW => ?_)
  refine lv_iload_n C.1 C.2.1 dX9_swaps_14 rfl (lv_at hl 0 rfl) ?_
  exact ret_i h hq rfl hW dX9_swaps_15
theorem c_X9_swaps {X : TX} {l : Launch} {fu : Nat} {x1 : Int32} {x2 : Int32} {m mE : Mem} {r : Int32} (h : f_X9_swaps fu x1 x2 m = some (r, mE))  : MetI X l yX9_swaps cX9_swaps 4 .int 0 [.ref (ad X 20 0), .int x1, .int x2] m r mE :=
  met_I (by decide) (Nat.le_of_ble_eq_true rfl) (fun p e s mi args below meth c ls Q C hq hW hl => w_X9_swaps C hq h  hW (lv_sub hl [0, 1, 2] rfl))
theorem k_X9_swaps : CalV yX9_swaps cX9_swaps 4 (some .int) RX9 2 := ⟨w_1175, w_33, w_70, w_1176, by decide +kernel⟩
theorem dX9_comes_0 : decode cX9_comes 0 = .ok (.aload_n 0, 1) := by decide +kernel
theorem dX9_comes_1 : decode cX9_comes 1 = .ok (.getfield 9, 3) := by decide +kernel
theorem dX9_comes_4 : decode cX9_comes 4 = .ok (.iconst 1, 1) := by decide +kernel
theorem dX9_comes_5 : decode cX9_comes 5 = .ok (.iaload, 1) := by decide +kernel
theorem dX9_comes_6 : decode cX9_comes 6 = .ok (.istore 4, 2) := by decide +kernel
theorem dX9_comes_8 : decode cX9_comes 8 = .ok (.aload_n 0, 1) := by decide +kernel
theorem dX9_comes_9 : decode cX9_comes 9 = .ok (.getfield 9, 3) := by decide +kernel
theorem dX9_comes_12 : decode cX9_comes 12 = .ok (.iconst 1, 1) := by decide +kernel
theorem dX9_comes_13 : decode cX9_comes 13 = .ok (.dup2, 1) := by decide +kernel
theorem dX9_comes_14 : decode cX9_comes 14 = .ok (.iaload, 1) := by decide +kernel
theorem dX9_comes_15 : decode cX9_comes 15 = .ok (.iconst 1, 1) := by decide +kernel
theorem dX9_comes_16 : decode cX9_comes 16 = .ok (.iadd, 1) := by decide +kernel
theorem dX9_comes_17 : decode cX9_comes 17 = .ok (.iastore, 1) := by decide +kernel
theorem dX9_comes_18 : decode cX9_comes 18 = .ok (.iconst 0, 1) := by decide +kernel
theorem dX9_comes_19 : decode cX9_comes 19 = .ok (.istore 5, 2) := by decide +kernel
theorem dX9_comes_21 : decode cX9_comes 21 = .ok (.iload 5, 2) := by decide +kernel
theorem dX9_comes_23 : decode cX9_comes 23 = .ok (.bipush 7, 2) := by decide +kernel
theorem dX9_comes_25 : decode cX9_comes 25 = .ok (.if_icmp .ge 18, 3) := by decide +kernel
theorem dX9_comes_28 : decode cX9_comes 28 = .ok (.aload_n 0, 1) := by decide +kernel
theorem dX9_comes_29 : decode cX9_comes 29 = .ok (.iload 4, 2) := by decide +kernel
theorem dX9_comes_31 : decode cX9_comes 31 = .ok (.iload 5, 2) := by decide +kernel
theorem dX9_comes_33 : decode cX9_comes 33 = .ok (.iconst 0, 1) := by decide +kernel
theorem dX9_comes_34 : decode cX9_comes 34 = .ok (.invokevirtual 83, 3) := by decide +kernel
theorem dX9_comes_37 : decode cX9_comes 37 = .ok (.iinc 5 1, 3) := by decide +kernel
theorem dX9_comes_40 : decode cX9_comes 40 = .ok (.goto (-19), 3) := by decide +kernel
theorem dX9_comes_43 : decode cX9_comes 43 = .ok (.aload_n 0, 1) := by decide +kernel
theorem dX9_comes_44 : decode cX9_comes 44 = .ok (.iload 4, 2) := by decide +kernel
theorem dX9_comes_46 : decode cX9_comes 46 = .ok (.iconst 0, 1) := by decide +kernel
theorem dX9_comes_47 : decode cX9_comes 47 = .ok (.iload_n 1, 1) := by decide +kernel
theorem dX9_comes_48 : decode cX9_comes 48 = .ok (.invokevirtual 83, 3) := by decide +kernel
theorem dX9_comes_51 : decode cX9_comes 51 = .ok (.aload_n 0, 1) := by decide +kernel
theorem dX9_comes_52 : decode cX9_comes 52 = .ok (.iload 4, 2) := by decide +kernel
theorem dX9_comes_54 : decode cX9_comes 54 = .ok (.iconst 1, 1) := by decide +kernel
theorem dX9_comes_55 : decode cX9_comes 55 = .ok (.iload_n 2, 1) := by decide +kernel
theorem dX9_comes_56 : decode cX9_comes 56 = .ok (.invokevirtual 83, 3) := by decide +kernel
theorem dX9_comes_59 : decode cX9_comes 59 = .ok (.aload_n 0, 1) := by decide +kernel
theorem dX9_comes_60 : decode cX9_comes 60 = .ok (.iload 4, 2) := by decide +kernel
theorem dX9_comes_62 : decode cX9_comes 62 = .ok (.iconst 2, 1) := by decide +kernel
theorem dX9_comes_63 : decode cX9_comes 63 = .ok (.iload_n 3, 1) := by decide +kernel
theorem dX9_comes_64 : decode cX9_comes 64 = .ok (.invokevirtual 83, 3) := by decide +kernel
theorem dX9_comes_67 : decode cX9_comes 67 = .ok (.iload 4, 2) := by decide +kernel
theorem dX9_comes_69 : decode cX9_comes 69 = .ok (.ireturn, 1) := by decide +kernel
def f_X9_comes_21 (fu : Nat)  : Nat → Int32 → Int32 → Int32 → Int32 → Int32 → Mem → Option (Int32 × Mem)
  | 0, _, _, _, _, _, _ => none
  | n + 1, x1, x2, x3, x4, x5, m => if 7 ≤ x5 then (doV (f_X9_put fu x4 0 x1 m) (fun m_2 => doV (f_X9_put fu x4 1 x2 m_2) (fun m_4 => doV (f_X9_put fu x4 2 x3 m_4) (fun m_6 => some (x4, m_6))))) else (doV (f_X9_put fu x4 x5 0 m) (fun m_8 => seqM (x5 + 1) (fun x_9 : Int32 => f_X9_comes_21 fu n x1 x2 x3 x4 x_9 m_8)))
set_option maxHeartbeats 4000000 in
set_option maxRecDepth 100000 in
theorem w_X9_comes_21 {X : TX} {p : Program} {l : Launch} {e : Env} {s : State} {mi : MethodId} {args : Array Value} {below : List Frame} {meth : Method} {c : Code} {Q : State → Prop} {r : Int32} {mE : Mem} (C : Cx X p s mi args c RX9 cX9_comes 6) (hq : RetI X p l e (rmD 1) s mi args below meth c cX9_comes .int Q r mE) {fu : Nat} : ∀ (n : Nat) {x1 : Int32} {x2 : Int32} {x3 : Int32} {x4 : Int32} {x5 : Int32} {m : Mem} {H : Heap} {locs : List Loc} {ls : Array Slot}, f_X9_comes_21 fu n x1 x2 x3 x4 x5 m = some (r, mE) → Wd X s m H locs → lv_has ls 6 [(0, .ref (ad X 20 0)), (1, .int x1), (2, .int x2), (3, .int x3), (4, .int x4), (5, .int x5)] → W p l e (rmD 1) s mi args below meth c H locs 0 0 Q (F0 mi 21 ls []) := by
  intro n
  induction n with
  | zero =>
    intro x1 x2 x3 x4 x5 m H locs ls h hW hl
    rw [f_X9_comes_21] at h
    cases h
  | succ n ih =>
    intro x1 x2 x3 x4 x5 m H locs ls h hW hl
    rw [f_X9_comes_21] at h
    refine lv_iload C.1 C.2.1 dX9_comes_21 (lv_at hl 5 rfl) ?_
    refine lv_bipush (v := 7) C.1 C.2.1 dX9_comes_23 rfl ?_
    refine lv_icmp_ge (tgt := 43) C.1 C.2.1 dX9_comes_25 (by decide) (fun hc_11 => ?_) (fun hc_11 => ?_)
    · have h := ite_t hc_11 h
      refine lv_aload_n C.1 C.2.1 dX9_comes_43 rfl (lv_at hl 0 rfl) ?_
      refine lv_iload C.1 C.2.1 dX9_comes_44 (lv_at hl 4 rfl) ?_
      refine lv_iconst (v := 0) C.1 C.2.1 dX9_comes_46 rfl ?_
      refine lv_iload_n C.1 C.2.1 dX9_comes_47 rfl (lv_at hl 1 rfl) ?_
      obtain ⟨m_2, hc_1, h⟩ := doV_E h
      refine zr_cVV C hW (c_X9_put (x1 := x4) (x2 := 0) (x3 := x1) hc_1 ) k_X9_put (zr_recv C hW id_20 zco_20 rfl) w_1129 ⟨Nat.le_of_ble_eq_true rfl, Nat.le_of_ble_eq_true rfl⟩ ⟨Nat.le_refl 0, Nat.le_refl 0⟩ rfl hl.1 rfl (Nat.le_of_ble_eq_true rfl) dX9_comes_48 (fun H locs hW => ?_)
      refine lv_aload_n C.1 C.2.1 dX9_comes_51 rfl (lv_at hl 0 rfl) ?_
      refine lv_iload C.1 C.2.1 dX9_comes_52 (lv_at hl 4 rfl) ?_
      refine lv_iconst (v := 1) C.1 C.2.1 dX9_comes_54 rfl ?_
      refine lv_iload_n C.1 C.2.1 dX9_comes_55 rfl (lv_at hl 2 rfl) ?_
      obtain ⟨m_4, hc_3, h⟩ := doV_E h
      refine zr_cVV C hW (c_X9_put (x1 := x4) (x2 := 1) (x3 := x2) hc_3 ) k_X9_put (zr_recv C hW id_20 zco_20 rfl) w_1129 ⟨Nat.le_of_ble_eq_true rfl, Nat.le_of_ble_eq_true rfl⟩ ⟨Nat.le_refl 0, Nat.le_refl 0⟩ rfl hl.1 rfl (Nat.le_of_ble_eq_true rfl) dX9_comes_56 (fun H locs hW => ?_)
      refine lv_aload_n C.1 C.2.1 dX9_comes_59 rfl (lv_at hl 0 rfl) ?_
      refine lv_iload C.1 C.2.1 dX9_comes_60 (lv_at hl 4 rfl) ?_
      refine lv_iconst (v := 2) C.1 C.2.1 dX9_comes_62 rfl ?_
      refine lv_iload_n C.1 C.2.1 dX9_comes_63 rfl (lv_at hl 3 rfl) ?_
      obtain ⟨m_6, hc_5, h⟩ := doV_E h
      refine zr_cVV C hW (c_X9_put (x1 := x4) (x2 := 2) (x3 := x3) hc_5 ) k_X9_put (zr_recv C hW id_20 zco_20 rfl) w_1129 ⟨Nat.le_of_ble_eq_true rfl, Nat.le_of_ble_eq_true rfl⟩ ⟨Nat.le_refl 0, Nat.le_refl 0⟩ rfl hl.1 rfl (Nat.le_of_ble_eq_true rfl) dX9_comes_64 (fun H locs hW => ?_)
      refine lv_iload C.1 C.2.1 dX9_comes_67 (lv_at hl 4 rfl) ?_
      exact ret_i h hq rfl hW dX9_comes_69
    · have h := ite_f hc_11 h
      refine lv_aload_n C.1 C.2.1 dX9_comes_28 rfl (lv_at hl 0 rfl) ?_
      refine lv_iload C.1 C.2.1 dX9_comes_29 (lv_at hl 4 rfl) ?_
      refine lv_iload C.1 C.2.1 dX9_comes_31 (lv_at hl 5 rfl) ?_
      refine lv_iconst (v := 0) C.1 C.2.1 dX9_comes_33 rfl ?_
      obtain ⟨m_8, hc_7, h⟩ := doV_E h
      refine zr_cVV C hW (c_X9_put (x1 := x4) (x2 := x5) (x3 := 0) hc_7 ) k_X9_put (zr_recv C hW id_20 zco_20 rfl) w_1129 ⟨Nat.le_of_ble_eq_true rfl, Nat.le_of_ble_eq_true rfl⟩ ⟨Nat.le_refl 0, Nat.le_refl 0⟩ rfl hl.1 rfl (Nat.le_of_ble_eq_true rfl) dX9_comes_34 (fun H locs hW => ?_)
      obtain ⟨x_9, e_10, h⟩ := seqM_E h
      refine lv_iinc (v := x_9) (lv' := [(5, .int x_9), (0, .ref (ad X 20 0)), (1, .int x1), (2, .int x2), (3, .int x3), (4, .int x4)]) C.1 C.2.1 dX9_comes_37 hl (k := 5) rfl (by rw [e_10]; rfl) (by decide) rfl (fun ls hl => ?_)
      refine lv_goto (tgt := 21) C.1 C.2.1 dX9_comes_40 (by decide) ?_
      exact ih h  hW (lv_sub hl [1, 2, 3, 4, 5, 0] rfl)
def f_X9_comes (fu : Nat)  (x1 : Int32) (x2 : Int32) (x3 : Int32) (m : Mem) : Option (Int32 × Mem) := seqM (m ((4000 + 1500 * 0) + (1 : Int32).toNatClampNeg)) (fun x_1 : Int32 => seqM (upd m ((4000 + 1500 * 0) + (1 : Int32).toNatClampNeg) ((m ((4000 + 1500 * 0) + (1 : Int32).toNatClampNeg)) + 1)) (fun m_3 : Mem => f_X9_comes_21 fu fu x1 x2 x3 x_1 0 m_3))
set_option maxHeartbeats 4000000 in
set_option maxRecDepth 100000 in
theorem w_X9_comes {X : TX} {p : Program} {l : Launch} {e : Env} {s : State} {mi : MethodId} {args : Array Value} {below : List Frame} {meth : Method} {c : Code} {Q : State → Prop} {r : Int32} {mE : Mem} (C : Cx X p s mi args c RX9 cX9_comes 6) (hq : RetI X p l e (rmD 1) s mi args below meth c cX9_comes .int Q r mE) {fu : Nat} {x1 : Int32} {x2 : Int32} {x3 : Int32} {m : Mem} {H : Heap} {locs : List Loc} {ls : Array Slot} (h : f_X9_comes fu x1 x2 x3 m = some (r, mE))  (hW : Wd X s m H locs) (hl : lv_has ls 6 [(0, .ref (ad X 20 0)), (1, .int x1), (2, .int x2), (3, .int x3)]) : W p l e (rmD 1) s mi args below meth c H locs 0 0 Q (F0 mi 0 ls []) := by
  unfold f_X9_comes at h
  refine lv_aload_n C.1 C.2.1 dX9_comes_0 rfl (lv_at hl 0 rfl) ?_
  refine zg_X9_now C hW id_20 w_1004 dX9_comes_1 ?_
  refine lv_iconst (v := 1) C.1 C.2.1 dX9_comes_4 rfl ?_
  refine zal_21 C hW id_21_0 (inb_E (by decide)) dX9_comes_5 ?_
  obtain ⟨x_1, e_2, h⟩ := seqM_E h
  refine lv_name e_2 ?_
  refine lv_istore (lv' := [(4, .int x_1), (0, .ref (ad X 20 0)), (1, .int x1), (2, .int x2), (3, .int x3)]) C.1 C.2.1 dX9_comes_6 hl (by decide) rfl (fun ls hl => ?_)
  refine lv_aload_n C.1 C.2.1 dX9_comes_8 rfl (lv_at hl 1 rfl) ?_
  refine zg_X9_now C hW id_20 w_1004 dX9_comes_9 ?_
  refine lv_iconst (v := 1) C.1 C.2.1 dX9_comes_12 rfl ?_
  refine lv_dup2_11 C.1 C.2.1 dX9_comes_13 rfl rfl ?_
  refine zal_21 C hW id_21_0 (inb_E (by decide)) dX9_comes_14 ?_
  refine lv_iconst (v := 1) C.1 C.2.1 dX9_comes_15 rfl ?_
  refine lv_iadd C.1 C.2.1 dX9_comes_16 ?_
  obtain ⟨m_3, e_4, h⟩ := seqM_E h
  refine zas_21 C hW id_21_0 (inb_E (by decide)) e_4 dX9_comes_17 (fun H locs hW => ?_)
  refine lv_iconst (v := 0) C.1 C.2.1 dX9_comes_18 rfl ?_
  refine lv_istore (lv' := [(5, .int 0), (4, .int x_1), (0, .ref (ad X 20 0)), (1, .int x1), (2, .int x2), (3, .int x3)]) C.1 C.2.1 dX9_comes_19 hl (by decide) rfl (fun ls hl => ?_)
  exact w_X9_comes_21 C hq  fu h  hW (lv_sub hl [2, 3, 4, 5, 1, 0] rfl)
theorem c_X9_comes {X : TX} {l : Launch} {fu : Nat} {x1 : Int32} {x2 : Int32} {x3 : Int32} {m mE : Mem} {r : Int32} (h : f_X9_comes fu x1 x2 x3 m = some (r, mE))  : MetI X l yX9_comes cX9_comes 6 .int 1 [.ref (ad X 20 0), .int x1, .int x2, .int x3] m r mE :=
  met_I (by decide) (Nat.le_of_ble_eq_true rfl) (fun p e s mi args below meth c ls Q C hq hW hl => w_X9_comes C hq h  hW (lv_sub hl [0, 1, 2, 3] rfl))
theorem k_X9_comes : CalV yX9_comes cX9_comes 6 (some .int) RX9 3 := ⟨w_1127, w_25, w_70, w_1128, by decide +kernel⟩
theorem dX9_isOf_0 : decode cX9_isOf 0 = .ok (.iload_n 0, 1) := by decide +kernel
theorem dX9_isOf_1 : decode cX9_isOf 1 = .ok (.iconst 3, 1) := by decide +kernel
theorem dX9_isOf_2 : decode cX9_isOf 2 = .ok (.if_icmp .ne 13, 3) := by decide +kernel
theorem dX9_isOf_5 : decode cX9_isOf 5 = .ok (.iload_n 1, 1) := by decide +kernel
theorem dX9_isOf_6 : decode cX9_isOf 6 = .ok (.iconst 0, 1) := by decide +kernel
theorem dX9_isOf_7 : decode cX9_isOf 7 = .ok (.bipush 40, 2) := by decide +kernel
theorem dX9_isOf_9 : decode cX9_isOf 9 = .ok (.invokestatic 79, 3) := by decide +kernel
theorem dX9_isOf_12 : decode cX9_isOf 12 = .ok (.goto 10, 3) := by decide +kernel
theorem dX9_isOf_15 : decode cX9_isOf 15 = .ok (.iload_n 1, 1) := by decide +kernel
theorem dX9_isOf_16 : decode cX9_isOf 16 = .ok (.iconst 1, 1) := by decide +kernel
theorem dX9_isOf_17 : decode cX9_isOf 17 = .ok (.bipush 60, 2) := by decide +kernel
theorem dX9_isOf_19 : decode cX9_isOf 19 = .ok (.invokestatic 79, 3) := by decide +kernel
theorem dX9_isOf_22 : decode cX9_isOf 22 = .ok (.ireturn, 1) := by decide +kernel
def f_X9_isOf (fu : Nat)  (x0 : Int32) (x1 : Int32) (m : Mem) : Option (Int32 × Mem) := if x0 = 3 then (doI (f_X9_in fu x1 0 40 m) (fun r_7 m_6 => chk (isB r_7) (some (r_7, m_6)))) else (doI (f_X9_in fu x1 1 60 m) (fun r_3 m_2 => chk (isB r_3) (some (r_3, m_2))))
set_option maxHeartbeats 4000000 in
set_option maxRecDepth 100000 in
theorem w_X9_isOf {X : TX} {p : Program} {l : Launch} {e : Env} {s : State} {mi : MethodId} {args : Array Value} {below : List Frame} {meth : Method} {c : Code} {Q : State → Prop} {r : Int32} {mE : Mem} (C : Cx X p s mi args c RX9 cX9_isOf 2) (hq : RetI X p l e (rmD 1) s mi args below meth c cX9_isOf .boolean Q r mE) {fu : Nat} {x0 : Int32} {x1 : Int32} {m : Mem} {H : Heap} {locs : List Loc} {ls : Array Slot} (h : f_X9_isOf fu x0 x1 m = some (r, mE))  (hW : Wd X s m H locs) (hl : lv_has ls 2 [(0, .int x0), (1, .int x1)]) : W p l e (rmD 1) s mi args below meth c H locs 0 0 Q (F0 mi 0 ls []) := by
  unfold f_X9_isOf at h
  refine lv_iload_n C.1 C.2.1 dX9_isOf_0 rfl (lv_at hl 0 rfl) ?_
  refine lv_iconst (v := 3) C.1 C.2.1 dX9_isOf_1 rfl ?_
  refine lv_icmp_ne (tgt := 15) C.1 C.2.1 dX9_isOf_2 (by decide) (fun hc_9 => ?_) (fun hc_9 => ?_)
  · have h := ite_f hc_9 h
    refine lv_iload_n C.1 C.2.1 dX9_isOf_15 rfl (lv_at hl 1 rfl) ?_
    refine lv_iconst (v := 1) C.1 C.2.1 dX9_isOf_16 rfl ?_
    refine lv_bipush (v := 60) C.1 C.2.1 dX9_isOf_17 rfl ?_
    obtain ⟨r_3, m_2, hc_1, h⟩ := doI_E h
    refine zr_cSI C hW (c_X9_in (x0 := x1) (x1 := 1) (x2 := 60) hc_1 ) k_X9_in w_1117 ⟨Nat.le_of_ble_eq_true rfl, Nat.le_of_ble_eq_true rfl⟩ ⟨Nat.le_refl 0, Nat.le_refl 0⟩ rfl hl.1 rfl (Nat.le_of_ble_eq_true rfl) dX9_isOf_19 (fun H locs hW => ?_)
    obtain ⟨hb_4, h⟩ := chk_E h
    exact ret_i h hq (nar_B (isB_E hb_4)) hW dX9_isOf_22
  · have h := ite_t hc_9 h
    refine lv_iload_n C.1 C.2.1 dX9_isOf_5 rfl (lv_at hl 1 rfl) ?_
    refine lv_iconst (v := 0) C.1 C.2.1 dX9_isOf_6 rfl ?_
    refine lv_bipush (v := 40) C.1 C.2.1 dX9_isOf_7 rfl ?_
    obtain ⟨r_7, m_6, hc_5, h⟩ := doI_E h
    refine zr_cSI C hW (c_X9_in (x0 := x1) (x1 := 0) (x2 := 40) hc_5 ) k_X9_in w_1117 ⟨Nat.le_of_ble_eq_true rfl, Nat.le_of_ble_eq_true rfl⟩ ⟨Nat.le_refl 0, Nat.le_refl 0⟩ rfl hl.1 rfl (Nat.le_of_ble_eq_true rfl) dX9_isOf_9 (fun H locs hW => ?_)
    refine lv_goto (tgt := 22) C.1 C.2.1 dX9_isOf_12 (by decide) ?_
    obtain ⟨hb_8, h⟩ := chk_E h
    exact ret_i h hq (nar_B (isB_E hb_8)) hW dX9_isOf_22
theorem c_X9_isOf {X : TX} {l : Launch} {fu : Nat} {x0 : Int32} {x1 : Int32} {m mE : Mem} {r : Int32} (h : f_X9_isOf fu x0 x1 m = some (r, mE))  : MetI X l yX9_isOf cX9_isOf 2 .boolean 1 [.int x0, .int x1] m r mE :=
  met_I (by decide) (Nat.le_of_ble_eq_true rfl) (fun p e s mi args below meth c ls Q C hq hW hl => w_X9_isOf C hq h  hW (lv_sub hl [0, 1] rfl))
theorem k_X9_isOf : CalS yX9_isOf cX9_isOf 2 (some .boolean) 2 := ⟨w_1121, w_70, w_1122, by decide +kernel⟩
theorem dX9_voice_0 : decode cX9_voice 0 = .ok (.iload_n 1, 1) := by decide +kernel
theorem dX9_voice_1 : decode cX9_voice 1 = .ok (.iconst 0, 1) := by decide +kernel
theorem dX9_voice_2 : decode cX9_voice 2 = .ok (.iconst 5, 1) := by decide +kernel
theorem dX9_voice_3 : decode cX9_voice 3 = .ok (.invokestatic 79, 3) := by decide +kernel
theorem dX9_voice_6 : decode cX9_voice 6 = .ok (.ifCond .eq 19, 3) := by decide +kernel
theorem dX9_voice_9 : decode cX9_voice 9 = .ok (.iconst 1, 1) := by decide +kernel
theorem dX9_voice_10 : decode cX9_voice 10 = .ok (.iload_n 2, 1) := by decide +kernel
theorem dX9_voice_11 : decode cX9_voice 11 = .ok (.invokestatic 87, 3) := by decide +kernel
theorem dX9_voice_14 : decode cX9_voice 14 = .ok (.ifCond .eq 11, 3) := by decide +kernel
theorem dX9_voice_17 : decode cX9_voice 17 = .ok (.iconst 2, 1) := by decide +kernel
theorem dX9_voice_18 : decode cX9_voice 18 = .ok (.iload_n 3, 1) := by decide +kernel
theorem dX9_voice_19 : decode cX9_voice 19 = .ok (.invokestatic 87, 3) := by decide +kernel
theorem dX9_voice_22 : decode cX9_voice 22 = .ok (.ifCond .ne 6, 3) := by decide +kernel
theorem dX9_voice_25 : decode cX9_voice 25 = .ok (.ldc 91, 2) := by decide +kernel
theorem dX9_voice_27 : decode cX9_voice 27 = .ok (.ireturn, 1) := by decide +kernel
theorem dX9_voice_28 : decode cX9_voice 28 = .ok (.aload_n 0, 1) := by decide +kernel
theorem dX9_voice_29 : decode cX9_voice 29 = .ok (.getfield 9, 3) := by decide +kernel
theorem dX9_voice_32 : decode cX9_voice 32 = .ok (.iconst 1, 1) := by decide +kernel
theorem dX9_voice_33 : decode cX9_voice 33 = .ok (.iaload, 1) := by decide +kernel
theorem dX9_voice_34 : decode cX9_voice 34 = .ok (.iconst 5, 1) := by decide +kernel
theorem dX9_voice_35 : decode cX9_voice 35 = .ok (.if_icmp .ne 8, 3) := by decide +kernel
theorem dX9_voice_38 : decode cX9_voice 38 = .ok (.ldc 92, 2) := by decide +kernel
theorem dX9_voice_40 : decode cX9_voice 40 = .ok (.goto 10, 3) := by decide +kernel
theorem dX9_voice_43 : decode cX9_voice 43 = .ok (.aload_n 0, 1) := by decide +kernel
theorem dX9_voice_44 : decode cX9_voice 44 = .ok (.iload_n 1, 1) := by decide +kernel
theorem dX9_voice_45 : decode cX9_voice 45 = .ok (.iload_n 2, 1) := by decide +kernel
theorem dX9_voice_46 : decode cX9_voice 46 = .ok (.iload_n 3, 1) := by decide +kernel
theorem dX9_voice_47 : decode cX9_voice 47 = .ok (.invokevirtual 93, 3) := by decide +kernel
theorem dX9_voice_50 : decode cX9_voice 50 = .ok (.ireturn, 1) := by decide +kernel
def f_X9_voice (fu : Nat)  (x1 : Int32) (x2 : Int32) (x3 : Int32) (m : Mem) : Option (Int32 × Mem) := doI (f_X9_in fu x1 0 5 m) (fun r_3 m_2 => if r_3 = 0 then (some ((-1000000001), m_2)) else (doI (f_X9_isOf fu 1 x2 m_2) (fun r_6 m_5 => if r_6 = 0 then (some ((-1000000001), m_5)) else (doI (f_X9_isOf fu 2 x3 m_5) (fun r_9 m_8 => if r_9 = 0 then (some ((-1000000001), m_8)) else (if (m_8 ((4000 + 1500 * 0) + (1 : Int32).toNatClampNeg)) = 5 then (some ((-1000000003), m_8)) else (doI (f_X9_comes fu x1 x2 x3 m_8) (fun r_12 m_11 => some (r_12, m_11)))))))))
set_option maxHeartbeats 4000000 in
set_option maxRecDepth 100000 in
theorem w_X9_voice {X : TX} {p : Program} {l : Launch} {e : Env} {s : State} {mi : MethodId} {args : Array Value} {below : List Frame} {meth : Method} {c : Code} {Q : State → Prop} {r : Int32} {mE : Mem} (C : Cx X p s mi args c RX9 cX9_voice 4) (hq : RetI X p l e (rmD 2) s mi args below meth c cX9_voice .int Q r mE) {fu : Nat} {x1 : Int32} {x2 : Int32} {x3 : Int32} {m : Mem} {H : Heap} {locs : List Loc} {ls : Array Slot} (h : f_X9_voice fu x1 x2 x3 m = some (r, mE))  (hW : Wd X s m H locs) (hl : lv_has ls 4 [(0, .ref (ad X 20 0)), (1, .int x1), (2, .int x2), (3, .int x3)]) : W p l e (rmD 2) s mi args below meth c H locs 0 0 Q (F0 mi 0 ls []) := by
  unfold f_X9_voice at h
  refine lv_iload_n C.1 C.2.1 dX9_voice_0 rfl (lv_at hl 1 rfl) ?_
  refine lv_iconst (v := 0) C.1 C.2.1 dX9_voice_1 rfl ?_
  refine lv_iconst (v := 5) C.1 C.2.1 dX9_voice_2 rfl ?_
  obtain ⟨r_3, m_2, hc_1, h⟩ := doI_E h
  refine zr_cSI C hW (c_X9_in (x0 := x1) (x1 := 0) (x2 := 5) hc_1 ) k_X9_in w_1117 ⟨Nat.le_of_ble_eq_true rfl, Nat.le_of_ble_eq_true rfl⟩ ⟨Nat.le_refl 0, Nat.le_refl 0⟩ rfl hl.1 rfl (Nat.le_of_ble_eq_true rfl) dX9_voice_3 (fun H locs hW => ?_)
  refine lv_if_eq (tgt := 25) C.1 C.2.1 dX9_voice_6 (by decide) (fun hc_16 => ?_) (fun hc_16 => ?_)
  · have h := ite_t hc_16 h
    refine lv_ldc C.1 C.2.1 C.2.2.2.1 (C.2.2.2.2.1 _ w_1123) dX9_voice_25 ?_
    exact ret_i h hq rfl hW dX9_voice_27
  · have h := ite_f hc_16 h
    refine lv_iconst (v := 1) C.1 C.2.1 dX9_voice_9 rfl ?_
    refine lv_iload_n C.1 C.2.1 dX9_voice_10 rfl (lv_at hl 2 rfl) ?_
    obtain ⟨r_6, m_5, hc_4, h⟩ := doI_E h
    refine zr_cSI C hW (c_X9_isOf (x0 := 1) (x1 := x2) hc_4 ) k_X9_isOf w_1120 ⟨Nat.le_of_ble_eq_true rfl, Nat.le_of_ble_eq_true rfl⟩ ⟨Nat.le_refl 0, Nat.le_refl 0⟩ rfl hl.1 rfl (Nat.le_of_ble_eq_true rfl) dX9_voice_11 (fun H locs hW => ?_)
    refine lv_if_eq (tgt := 25) C.1 C.2.1 dX9_voice_14 (by decide) (fun hc_15 => ?_) (fun hc_15 => ?_)
    · have h := ite_t hc_15 h
      refine lv_ldc C.1 C.2.1 C.2.2.2.1 (C.2.2.2.2.1 _ w_1123) dX9_voice_25 ?_
      exact ret_i h hq rfl hW dX9_voice_27
    · have h := ite_f hc_15 h
      refine lv_iconst (v := 2) C.1 C.2.1 dX9_voice_17 rfl ?_
      refine lv_iload_n C.1 C.2.1 dX9_voice_18 rfl (lv_at hl 3 rfl) ?_
      obtain ⟨r_9, m_8, hc_7, h⟩ := doI_E h
      refine zr_cSI C hW (c_X9_isOf (x0 := 2) (x1 := x3) hc_7 ) k_X9_isOf w_1120 ⟨Nat.le_of_ble_eq_true rfl, Nat.le_of_ble_eq_true rfl⟩ ⟨Nat.le_refl 0, Nat.le_refl 0⟩ rfl hl.1 rfl (Nat.le_of_ble_eq_true rfl) dX9_voice_19 (fun H locs hW => ?_)
      refine lv_if_ne (tgt := 28) C.1 C.2.1 dX9_voice_22 (by decide) (fun hc_14 => ?_) (fun hc_14 => ?_)
      · have h := ite_f hc_14 h
        refine lv_aload_n C.1 C.2.1 dX9_voice_28 rfl (lv_at hl 0 rfl) ?_
        refine zg_X9_now C hW id_20 w_1004 dX9_voice_29 ?_
        refine lv_iconst (v := 1) C.1 C.2.1 dX9_voice_32 rfl ?_
        refine zal_21 C hW id_21_0 (inb_E (by decide)) dX9_voice_33 ?_
        refine lv_iconst (v := 5) C.1 C.2.1 dX9_voice_34 rfl ?_
        refine lv_icmp_ne (tgt := 43) C.1 C.2.1 dX9_voice_35 (by decide) (fun hc_13 => ?_) (fun hc_13 => ?_)
        · have h := ite_f hc_13 h
          refine lv_aload_n C.1 C.2.1 dX9_voice_43 rfl (lv_at hl 0 rfl) ?_
          refine lv_iload_n C.1 C.2.1 dX9_voice_44 rfl (lv_at hl 1 rfl) ?_
          refine lv_iload_n C.1 C.2.1 dX9_voice_45 rfl (lv_at hl 2 rfl) ?_
          refine lv_iload_n C.1 C.2.1 dX9_voice_46 rfl (lv_at hl 3 rfl) ?_
          obtain ⟨r_12, m_11, hc_10, h⟩ := doI_E h
          refine zr_cVI C hW (c_X9_comes (x1 := x1) (x2 := x2) (x3 := x3) hc_10 ) k_X9_comes (zr_recv C hW id_20 zco_20 rfl) w_1125 ⟨Nat.le_of_ble_eq_true rfl, Nat.le_of_ble_eq_true rfl⟩ ⟨Nat.le_refl 0, Nat.le_refl 0⟩ rfl hl.1 rfl (Nat.le_of_ble_eq_true rfl) dX9_voice_47 (fun H locs hW => ?_)
          exact ret_i h hq rfl hW dX9_voice_50
        · have h := ite_t hc_13 h
          refine lv_ldc C.1 C.2.1 C.2.2.2.1 (C.2.2.2.2.1 _ w_1124) dX9_voice_38 ?_
          refine lv_goto (tgt := 50) C.1 C.2.1 dX9_voice_40 (by decide) ?_
          exact ret_i h hq rfl hW dX9_voice_50
      · have h := ite_t hc_14 h
        refine lv_ldc C.1 C.2.1 C.2.2.2.1 (C.2.2.2.2.1 _ w_1123) dX9_voice_25 ?_
        exact ret_i h hq rfl hW dX9_voice_27
theorem c_X9_voice {X : TX} {l : Launch} {fu : Nat} {x1 : Int32} {x2 : Int32} {x3 : Int32} {m mE : Mem} {r : Int32} (h : f_X9_voice fu x1 x2 x3 m = some (r, mE))  : MetI X l yX9_voice cX9_voice 4 .int 2 [.ref (ad X 20 0), .int x1, .int x2, .int x3] m r mE :=
  met_I (by decide) (Nat.le_of_ble_eq_true rfl) (fun p e s mi args below meth c ls Q C hq hW hl => w_X9_voice C hq h  hW (lv_sub hl [0, 1, 2, 3] rfl))
theorem k_X9_voice : CalV yX9_voice cX9_voice 4 (some .int) RX9 3 := ⟨w_1114, w_1115, w_70, w_1116, by decide +kernel⟩
theorem dX9_waitsOf_0 : decode cX9_waitsOf 0 = .ok (.aload_n 0, 1) := by decide +kernel
theorem dX9_waitsOf_1 : decode cX9_waitsOf 1 = .ok (.iload_n 1, 1) := by decide +kernel
theorem dX9_waitsOf_2 : decode cX9_waitsOf 2 = .ok (.iconst 1, 1) := by decide +kernel
theorem dX9_waitsOf_3 : decode cX9_waitsOf 3 = .ok (.invokevirtual 97, 3) := by decide +kernel
theorem dX9_waitsOf_6 : decode cX9_waitsOf 6 = .ok (.aload_n 0, 1) := by decide +kernel
theorem dX9_waitsOf_7 : decode cX9_waitsOf 7 = .ok (.iload_n 1, 1) := by decide +kernel
theorem dX9_waitsOf_8 : decode cX9_waitsOf 8 = .ok (.iconst 5, 1) := by decide +kernel
theorem dX9_waitsOf_9 : decode cX9_waitsOf 9 = .ok (.invokevirtual 97, 3) := by decide +kernel
theorem dX9_waitsOf_12 : decode cX9_waitsOf 12 = .ok (.iadd, 1) := by decide +kernel
theorem dX9_waitsOf_13 : decode cX9_waitsOf 13 = .ok (.aload_n 0, 1) := by decide +kernel
theorem dX9_waitsOf_14 : decode cX9_waitsOf 14 = .ok (.getfield 9, 3) := by decide +kernel
theorem dX9_waitsOf_17 : decode cX9_waitsOf 17 = .ok (.bipush 14, 2) := by decide +kernel
theorem dX9_waitsOf_19 : decode cX9_waitsOf 19 = .ok (.iaload, 1) := by decide +kernel
theorem dX9_waitsOf_20 : decode cX9_waitsOf 20 = .ok (.iload_n 1, 1) := by decide +kernel
theorem dX9_waitsOf_21 : decode cX9_waitsOf 21 = .ok (.if_icmp .ne 12, 3) := by decide +kernel
theorem dX9_waitsOf_24 : decode cX9_waitsOf 24 = .ok (.aload_n 0, 1) := by decide +kernel
theorem dX9_waitsOf_25 : decode cX9_waitsOf 25 = .ok (.iload_n 1, 1) := by decide +kernel
theorem dX9_waitsOf_26 : decode cX9_waitsOf 26 = .ok (.iconst 3, 1) := by decide +kernel
theorem dX9_waitsOf_27 : decode cX9_waitsOf 27 = .ok (.invokevirtual 97, 3) := by decide +kernel
theorem dX9_waitsOf_30 : decode cX9_waitsOf 30 = .ok (.goto 4, 3) := by decide +kernel
theorem dX9_waitsOf_33 : decode cX9_waitsOf 33 = .ok (.iconst 0, 1) := by decide +kernel
theorem dX9_waitsOf_34 : decode cX9_waitsOf 34 = .ok (.iadd, 1) := by decide +kernel
theorem dX9_waitsOf_35 : decode cX9_waitsOf 35 = .ok (.istore_n 2, 1) := by decide +kernel
theorem dX9_waitsOf_36 : decode cX9_waitsOf 36 = .ok (.iload_n 2, 1) := by decide +kernel
theorem dX9_waitsOf_37 : decode cX9_waitsOf 37 = .ok (.iconst 3, 1) := by decide +kernel
theorem dX9_waitsOf_38 : decode cX9_waitsOf 38 = .ok (.if_icmp .ge 7, 3) := by decide +kernel
theorem dX9_waitsOf_41 : decode cX9_waitsOf 41 = .ok (.iconst 1, 1) := by decide +kernel
theorem dX9_waitsOf_42 : decode cX9_waitsOf 42 = .ok (.goto 6, 3) := by decide +kernel
theorem dX9_waitsOf_45 : decode cX9_waitsOf 45 = .ok (.iload_n 2, 1) := by decide +kernel
theorem dX9_waitsOf_46 : decode cX9_waitsOf 46 = .ok (.iconst 2, 1) := by decide +kernel
theorem dX9_waitsOf_47 : decode cX9_waitsOf 47 = .ok (.isub, 1) := by decide +kernel
theorem dX9_waitsOf_48 : decode cX9_waitsOf 48 = .ok (.istore_n 3, 1) := by decide +kernel
theorem dX9_waitsOf_49 : decode cX9_waitsOf 49 = .ok (.aload_n 0, 1) := by decide +kernel
theorem dX9_waitsOf_50 : decode cX9_waitsOf 50 = .ok (.iload_n 1, 1) := by decide +kernel
theorem dX9_waitsOf_51 : decode cX9_waitsOf 51 = .ok (.iconst 0, 1) := by decide +kernel
theorem dX9_waitsOf_52 : decode cX9_waitsOf 52 = .ok (.invokevirtual 97, 3) := by decide +kernel
theorem dX9_waitsOf_55 : decode cX9_waitsOf 55 = .ok (.tableswitch 54 1 4 #[29, 31, 35, 48], 29) := by decide +kernel
theorem dX9_waitsOf_84 : decode cX9_waitsOf 84 = .ok (.iload_n 3, 1) := by decide +kernel
theorem dX9_waitsOf_85 : decode cX9_waitsOf 85 = .ok (.ireturn, 1) := by decide +kernel
theorem dX9_waitsOf_86 : decode cX9_waitsOf 86 = .ok (.iload_n 2, 1) := by decide +kernel
theorem dX9_waitsOf_87 : decode cX9_waitsOf 87 = .ok (.iconst 3, 1) := by decide +kernel
theorem dX9_waitsOf_88 : decode cX9_waitsOf 88 = .ok (.iadd, 1) := by decide +kernel
theorem dX9_waitsOf_89 : decode cX9_waitsOf 89 = .ok (.ireturn, 1) := by decide +kernel
theorem dX9_waitsOf_90 : decode cX9_waitsOf 90 = .ok (.iload_n 3, 1) := by decide +kernel
theorem dX9_waitsOf_91 : decode cX9_waitsOf 91 = .ok (.iconst 2, 1) := by decide +kernel
theorem dX9_waitsOf_92 : decode cX9_waitsOf 92 = .ok (.if_icmp .ge 7, 3) := by decide +kernel
theorem dX9_waitsOf_95 : decode cX9_waitsOf 95 = .ok (.iconst 1, 1) := by decide +kernel
theorem dX9_waitsOf_96 : decode cX9_waitsOf 96 = .ok (.goto 6, 3) := by decide +kernel
theorem dX9_waitsOf_99 : decode cX9_waitsOf 99 = .ok (.iload_n 3, 1) := by decide +kernel
theorem dX9_waitsOf_100 : decode cX9_waitsOf 100 = .ok (.iconst 2, 1) := by decide +kernel
theorem dX9_waitsOf_101 : decode cX9_waitsOf 101 = .ok (.idiv, 1) := by decide +kernel
theorem dX9_waitsOf_102 : decode cX9_waitsOf 102 = .ok (.ireturn, 1) := by decide +kernel
theorem dX9_waitsOf_103 : decode cX9_waitsOf 103 = .ok (.iconst 2, 1) := by decide +kernel
theorem dX9_waitsOf_104 : decode cX9_waitsOf 104 = .ok (.iload_n 2, 1) := by decide +kernel
theorem dX9_waitsOf_105 : decode cX9_waitsOf 105 = .ok (.iconst 3, 1) := by decide +kernel
theorem dX9_waitsOf_106 : decode cX9_waitsOf 106 = .ok (.iadd, 1) := by decide +kernel
theorem dX9_waitsOf_107 : decode cX9_waitsOf 107 = .ok (.imul, 1) := by decide +kernel
theorem dX9_waitsOf_108 : decode cX9_waitsOf 108 = .ok (.ireturn, 1) := by decide +kernel
theorem dX9_waitsOf_109 : decode cX9_waitsOf 109 = .ok (.iload_n 2, 1) := by decide +kernel
theorem dX9_waitsOf_110 : decode cX9_waitsOf 110 = .ok (.ireturn, 1) := by decide +kernel
def f_X9_waitsOf_48 (fu : Nat)  (x1 : Int32) (x2 : Int32) (y0 : Int32) (m : Mem) : Option (Int32 × Mem) := doI (f_X9_of fu x1 0 m) (fun r_3 m_2 => if r_3 = 1 then (some (y0, m_2)) else (if r_3 = 2 then (some ((x2 + 3), m_2)) else (if r_3 = 3 then (if 2 ≤ y0 then (some ((y0 / 2), m_2)) else (some (1, m_2))) else (if r_3 = 4 then (some ((2 * (x2 + 3)), m_2)) else (some (x2, m_2))))))
set_option maxHeartbeats 4000000 in
set_option maxRecDepth 100000 in
theorem w_X9_waitsOf_48 {X : TX} {p : Program} {l : Launch} {e : Env} {s : State} {mi : MethodId} {args : Array Value} {below : List Frame} {meth : Method} {c : Code} {Q : State → Prop} {r : Int32} {mE : Mem} (C : Cx X p s mi args c RX9 cX9_waitsOf 4) (hq : RetI X p l e (rmD 1) s mi args below meth c cX9_waitsOf .int Q r mE) {fu : Nat} {x1 : Int32} {x2 : Int32} {y0 : Int32} {m : Mem} {H : Heap} {locs : List Loc} {ls : Array Slot} (h : f_X9_waitsOf_48 fu x1 x2 y0 m = some (r, mE))  (hW : Wd X s m H locs) (hl : lv_has ls 4 [(0, .ref (ad X 20 0)), (1, .int x1), (2, .int x2)]) : W p l e (rmD 1) s mi args below meth c H locs 0 0 Q (F0 mi 48 ls [.int y0]) := by
  unfold f_X9_waitsOf_48 at h
  refine lv_istore_n (lv' := [(3, .int y0), (0, .ref (ad X 20 0)), (1, .int x1), (2, .int x2)]) C.1 C.2.1 dX9_waitsOf_48 rfl hl (by decide) rfl (fun ls hl => ?_)
  refine lv_aload_n C.1 C.2.1 dX9_waitsOf_49 rfl (lv_at hl 1 rfl) ?_
  refine lv_iload_n C.1 C.2.1 dX9_waitsOf_50 rfl (lv_at hl 2 rfl) ?_
  refine lv_iconst (v := 0) C.1 C.2.1 dX9_waitsOf_51 rfl ?_
  obtain ⟨r_3, m_2, hc_1, h⟩ := doI_E h
  refine zr_cVI C hW (c_X9_of (x1 := x1) (x2 := 0) hc_1 ) k_X9_of (zr_recv C hW id_20 zco_20 rfl) w_1141 ⟨Nat.le_of_ble_eq_true rfl, Nat.le_of_ble_eq_true rfl⟩ ⟨Nat.le_refl 0, Nat.le_refl 0⟩ rfl hl.1 rfl (Nat.le_of_ble_eq_true rfl) dX9_waitsOf_52 (fun H locs hW => ?_)
  by_cases hc_4 : r_3 = 1
  · have h := ite_t hc_4 h
    refine lv_tableIn (tgt := 84) C.1 C.2.1 dX9_waitsOf_55 (by rw [hc_4]; decide) (by rw [hc_4]; decide) (by rw [hc_4]; rfl) (by decide) ?_
    refine lv_iload_n C.1 C.2.1 dX9_waitsOf_84 rfl (lv_at hl 0 rfl) ?_
    exact ret_i h hq rfl hW dX9_waitsOf_85
  · have h := ite_f hc_4 h
    by_cases hc_5 : r_3 = 2
    · have h := ite_t hc_5 h
      refine lv_tableIn (tgt := 86) C.1 C.2.1 dX9_waitsOf_55 (by rw [hc_5]; decide) (by rw [hc_5]; decide) (by rw [hc_5]; rfl) (by decide) ?_
      refine lv_iload_n C.1 C.2.1 dX9_waitsOf_86 rfl (lv_at hl 3 rfl) ?_
      refine lv_iconst (v := 3) C.1 C.2.1 dX9_waitsOf_87 rfl ?_
      refine lv_iadd C.1 C.2.1 dX9_waitsOf_88 ?_
      exact ret_i h hq rfl hW dX9_waitsOf_89
    · have h := ite_f hc_5 h
      by_cases hc_7 : r_3 = 3
      · have h := ite_t hc_7 h
        refine lv_tableIn (tgt := 90) C.1 C.2.1 dX9_waitsOf_55 (by rw [hc_7]; decide) (by rw [hc_7]; decide) (by rw [hc_7]; rfl) (by decide) ?_
        refine lv_iload_n C.1 C.2.1 dX9_waitsOf_90 rfl (lv_at hl 0 rfl) ?_
        refine lv_iconst (v := 2) C.1 C.2.1 dX9_waitsOf_91 rfl ?_
        refine lv_icmp_ge (tgt := 99) C.1 C.2.1 dX9_waitsOf_92 (by decide) (fun hc_6 => ?_) (fun hc_6 => ?_)
        · have h := ite_t hc_6 h
          refine lv_iload_n C.1 C.2.1 dX9_waitsOf_99 rfl (lv_at hl 0 rfl) ?_
          refine lv_iconst (v := 2) C.1 C.2.1 dX9_waitsOf_100 rfl ?_
          refine lv_idiv C.1 C.2.1 dX9_waitsOf_101 (by decide) ?_
          exact ret_i h hq rfl hW dX9_waitsOf_102
        · have h := ite_f hc_6 h
          refine lv_iconst (v := 1) C.1 C.2.1 dX9_waitsOf_95 rfl ?_
          refine lv_goto (tgt := 102) C.1 C.2.1 dX9_waitsOf_96 (by decide) ?_
          exact ret_i h hq rfl hW dX9_waitsOf_102
      · have h := ite_f hc_7 h
        by_cases hc_8 : r_3 = 4
        · have h := ite_t hc_8 h
          refine lv_tableIn (tgt := 103) C.1 C.2.1 dX9_waitsOf_55 (by rw [hc_8]; decide) (by rw [hc_8]; decide) (by rw [hc_8]; rfl) (by decide) ?_
          refine lv_iconst (v := 2) C.1 C.2.1 dX9_waitsOf_103 rfl ?_
          refine lv_iload_n C.1 C.2.1 dX9_waitsOf_104 rfl (lv_at hl 3 rfl) ?_
          refine lv_iconst (v := 3) C.1 C.2.1 dX9_waitsOf_105 rfl ?_
          refine lv_iadd C.1 C.2.1 dX9_waitsOf_106 ?_
          refine lv_imul C.1 C.2.1 dX9_waitsOf_107 ?_
          exact ret_i h hq rfl hW dX9_waitsOf_108
        · have h := ite_f hc_8 h
          have nhc_4 := ne_k (1) rfl hc_4
          have nhc_5 := ne_k (2) rfl hc_5
          have nhc_7 := ne_k (3) rfl hc_7
          have nhc_8 := ne_k (4) rfl hc_8
          refine lv_tableOut (tgt := 109) C.1 C.2.1 dX9_waitsOf_55 (by omega) (by decide) ?_
          refine lv_iload_n C.1 C.2.1 dX9_waitsOf_109 rfl (lv_at hl 3 rfl) ?_
          exact ret_i h hq rfl hW dX9_waitsOf_110
def f_X9_waitsOf_34 (fu : Nat)  (x1 : Int32) (y0 : Int32) (y1 : Int32) (m : Mem) : Option (Int32 × Mem) := seqM (y0 + y1) (fun x_1 : Int32 => if 3 ≤ x_1 then (f_X9_waitsOf_48 fu x1 x_1 (x_1 - 2) m) else (f_X9_waitsOf_48 fu x1 x_1 1 m))
set_option maxHeartbeats 4000000 in
set_option maxRecDepth 100000 in
theorem w_X9_waitsOf_34 {X : TX} {p : Program} {l : Launch} {e : Env} {s : State} {mi : MethodId} {args : Array Value} {below : List Frame} {meth : Method} {c : Code} {Q : State → Prop} {r : Int32} {mE : Mem} (C : Cx X p s mi args c RX9 cX9_waitsOf 4) (hq : RetI X p l e (rmD 1) s mi args below meth c cX9_waitsOf .int Q r mE) {fu : Nat} {x1 : Int32} {y0 : Int32} {y1 : Int32} {m : Mem} {H : Heap} {locs : List Loc} {ls : Array Slot} (h : f_X9_waitsOf_34 fu x1 y0 y1 m = some (r, mE))  (hW : Wd X s m H locs) (hl : lv_has ls 4 [(0, .ref (ad X 20 0)), (1, .int x1)]) : W p l e (rmD 1) s mi args below meth c H locs 0 0 Q (F0 mi 34 ls [.int y1, .int y0]) := by
  unfold f_X9_waitsOf_34 at h
  refine lv_iadd C.1 C.2.1 dX9_waitsOf_34 ?_
  obtain ⟨x_1, e_2, h⟩ := seqM_E h
  refine lv_name e_2 ?_
  refine lv_istore_n (lv' := [(2, .int x_1), (0, .ref (ad X 20 0)), (1, .int x1)]) C.1 C.2.1 dX9_waitsOf_35 rfl hl (by decide) rfl (fun ls hl => ?_)
  refine lv_iload_n C.1 C.2.1 dX9_waitsOf_36 rfl (lv_at hl 0 rfl) ?_
  refine lv_iconst (v := 3) C.1 C.2.1 dX9_waitsOf_37 rfl ?_
  refine lv_icmp_ge (tgt := 45) C.1 C.2.1 dX9_waitsOf_38 (by decide) (fun hc_3 => ?_) (fun hc_3 => ?_)
  · have h := ite_t hc_3 h
    refine lv_iload_n C.1 C.2.1 dX9_waitsOf_45 rfl (lv_at hl 0 rfl) ?_
    refine lv_iconst (v := 2) C.1 C.2.1 dX9_waitsOf_46 rfl ?_
    refine lv_isub C.1 C.2.1 dX9_waitsOf_47 ?_
    exact w_X9_waitsOf_48 C hq  h  hW (lv_sub hl [1, 2, 0] rfl)
  · have h := ite_f hc_3 h
    refine lv_iconst (v := 1) C.1 C.2.1 dX9_waitsOf_41 rfl ?_
    refine lv_goto (tgt := 48) C.1 C.2.1 dX9_waitsOf_42 (by decide) ?_
    exact w_X9_waitsOf_48 C hq  h  hW (lv_sub hl [1, 2, 0] rfl)
def f_X9_waitsOf (fu : Nat)  (x1 : Int32) (m : Mem) : Option (Int32 × Mem) := doI (f_X9_of fu x1 1 m) (fun r_3 m_2 => doI (f_X9_of fu x1 5 m_2) (fun r_6 m_5 => if (m_5 ((4000 + 1500 * 0) + (14 : Int32).toNatClampNeg)) = x1 then (doI (f_X9_of fu x1 3 m_5) (fun r_9 m_8 => f_X9_waitsOf_34 fu x1 (r_3 + r_6) r_9 m_8)) else (f_X9_waitsOf_34 fu x1 (r_3 + r_6) 0 m_5)))
set_option maxHeartbeats 4000000 in
set_option maxRecDepth 100000 in
theorem w_X9_waitsOf {X : TX} {p : Program} {l : Launch} {e : Env} {s : State} {mi : MethodId} {args : Array Value} {below : List Frame} {meth : Method} {c : Code} {Q : State → Prop} {r : Int32} {mE : Mem} (C : Cx X p s mi args c RX9 cX9_waitsOf 4) (hq : RetI X p l e (rmD 1) s mi args below meth c cX9_waitsOf .int Q r mE) {fu : Nat} {x1 : Int32} {m : Mem} {H : Heap} {locs : List Loc} {ls : Array Slot} (h : f_X9_waitsOf fu x1 m = some (r, mE))  (hW : Wd X s m H locs) (hl : lv_has ls 4 [(0, .ref (ad X 20 0)), (1, .int x1)]) : W p l e (rmD 1) s mi args below meth c H locs 0 0 Q (F0 mi 0 ls []) := by
  unfold f_X9_waitsOf at h
  refine lv_aload_n C.1 C.2.1 dX9_waitsOf_0 rfl (lv_at hl 0 rfl) ?_
  refine lv_iload_n C.1 C.2.1 dX9_waitsOf_1 rfl (lv_at hl 1 rfl) ?_
  refine lv_iconst (v := 1) C.1 C.2.1 dX9_waitsOf_2 rfl ?_
  obtain ⟨r_3, m_2, hc_1, h⟩ := doI_E h
  refine zr_cVI C hW (c_X9_of (x1 := x1) (x2 := 1) hc_1 ) k_X9_of (zr_recv C hW id_20 zco_20 rfl) w_1141 ⟨Nat.le_of_ble_eq_true rfl, Nat.le_of_ble_eq_true rfl⟩ ⟨Nat.le_refl 0, Nat.le_refl 0⟩ rfl hl.1 rfl (Nat.le_of_ble_eq_true rfl) dX9_waitsOf_3 (fun H locs hW => ?_)
  refine lv_aload_n C.1 C.2.1 dX9_waitsOf_6 rfl (lv_at hl 0 rfl) ?_
  refine lv_iload_n C.1 C.2.1 dX9_waitsOf_7 rfl (lv_at hl 1 rfl) ?_
  refine lv_iconst (v := 5) C.1 C.2.1 dX9_waitsOf_8 rfl ?_
  obtain ⟨r_6, m_5, hc_4, h⟩ := doI_E h
  refine zr_cVI C hW (c_X9_of (x1 := x1) (x2 := 5) hc_4 ) k_X9_of (zr_recv C hW id_20 zco_20 rfl) w_1141 ⟨Nat.le_of_ble_eq_true rfl, Nat.le_of_ble_eq_true rfl⟩ ⟨Nat.le_refl 0, Nat.le_refl 0⟩ rfl hl.1 rfl (Nat.le_of_ble_eq_true rfl) dX9_waitsOf_9 (fun H locs hW => ?_)
  refine lv_iadd C.1 C.2.1 dX9_waitsOf_12 ?_
  refine lv_aload_n C.1 C.2.1 dX9_waitsOf_13 rfl (lv_at hl 0 rfl) ?_
  refine zg_X9_now C hW id_20 w_1004 dX9_waitsOf_14 ?_
  refine lv_bipush (v := 14) C.1 C.2.1 dX9_waitsOf_17 rfl ?_
  refine zal_21 C hW id_21_0 (inb_E (by decide)) dX9_waitsOf_19 ?_
  refine lv_iload_n C.1 C.2.1 dX9_waitsOf_20 rfl (lv_at hl 1 rfl) ?_
  refine lv_icmp_ne (tgt := 33) C.1 C.2.1 dX9_waitsOf_21 (by decide) (fun hc_10 => ?_) (fun hc_10 => ?_)
  · have h := ite_f hc_10 h
    refine lv_iconst (v := 0) C.1 C.2.1 dX9_waitsOf_33 rfl ?_
    exact w_X9_waitsOf_34 C hq  h  hW (lv_sub hl [0, 1] rfl)
  · have h := ite_t hc_10 h
    refine lv_aload_n C.1 C.2.1 dX9_waitsOf_24 rfl (lv_at hl 0 rfl) ?_
    refine lv_iload_n C.1 C.2.1 dX9_waitsOf_25 rfl (lv_at hl 1 rfl) ?_
    refine lv_iconst (v := 3) C.1 C.2.1 dX9_waitsOf_26 rfl ?_
    obtain ⟨r_9, m_8, hc_7, h⟩ := doI_E h
    refine zr_cVI C hW (c_X9_of (x1 := x1) (x2 := 3) hc_7 ) k_X9_of (zr_recv C hW id_20 zco_20 rfl) w_1141 ⟨Nat.le_of_ble_eq_true rfl, Nat.le_of_ble_eq_true rfl⟩ ⟨Nat.le_refl 0, Nat.le_refl 0⟩ rfl hl.1 rfl (Nat.le_of_ble_eq_true rfl) dX9_waitsOf_27 (fun H locs hW => ?_)
    refine lv_goto (tgt := 34) C.1 C.2.1 dX9_waitsOf_30 (by decide) ?_
    exact w_X9_waitsOf_34 C hq  h  hW (lv_sub hl [0, 1] rfl)
theorem c_X9_waitsOf {X : TX} {l : Launch} {fu : Nat} {x1 : Int32} {m mE : Mem} {r : Int32} (h : f_X9_waitsOf fu x1 m = some (r, mE))  : MetI X l yX9_waitsOf cX9_waitsOf 4 .int 1 [.ref (ad X 20 0), .int x1] m r mE :=
  met_I (by decide) (Nat.le_of_ble_eq_true rfl) (fun p e s mi args below meth c ls Q C hq hW hl => w_X9_waitsOf C hq h  hW (lv_sub hl [0, 1] rfl))
theorem k_X9_waitsOf : CalV yX9_waitsOf cX9_waitsOf 4 (some .int) RX9 1 := ⟨w_1147, w_29, w_70, w_1148, by decide +kernel⟩
theorem dX9_talksOf_0 : decode cX9_talksOf 0 = .ok (.aload_n 0, 1) := by decide +kernel
theorem dX9_talksOf_1 : decode cX9_talksOf 1 = .ok (.iload_n 1, 1) := by decide +kernel
theorem dX9_talksOf_2 : decode cX9_talksOf 2 = .ok (.iconst 2, 1) := by decide +kernel
theorem dX9_talksOf_3 : decode cX9_talksOf 3 = .ok (.invokevirtual 97, 3) := by decide +kernel
theorem dX9_talksOf_6 : decode cX9_talksOf 6 = .ok (.istore_n 2, 1) := by decide +kernel
theorem dX9_talksOf_7 : decode cX9_talksOf 7 = .ok (.aload_n 0, 1) := by decide +kernel
theorem dX9_talksOf_8 : decode cX9_talksOf 8 = .ok (.iload_n 1, 1) := by decide +kernel
theorem dX9_talksOf_9 : decode cX9_talksOf 9 = .ok (.iconst 0, 1) := by decide +kernel
theorem dX9_talksOf_10 : decode cX9_talksOf 10 = .ok (.invokevirtual 97, 3) := by decide +kernel
theorem dX9_talksOf_13 : decode cX9_talksOf 13 = .ok (.tableswitch 43 2 5 #[31, 37, 31, 41], 31) := by decide +kernel
theorem dX9_talksOf_44 : decode cX9_talksOf 44 = .ok (.iload_n 2, 1) := by decide +kernel
theorem dX9_talksOf_45 : decode cX9_talksOf 45 = .ok (.iconst 2, 1) := by decide +kernel
theorem dX9_talksOf_46 : decode cX9_talksOf 46 = .ok (.idiv, 1) := by decide +kernel
theorem dX9_talksOf_47 : decode cX9_talksOf 47 = .ok (.iconst 1, 1) := by decide +kernel
theorem dX9_talksOf_48 : decode cX9_talksOf 48 = .ok (.iadd, 1) := by decide +kernel
theorem dX9_talksOf_49 : decode cX9_talksOf 49 = .ok (.ireturn, 1) := by decide +kernel
theorem dX9_talksOf_50 : decode cX9_talksOf 50 = .ok (.iload_n 2, 1) := by decide +kernel
theorem dX9_talksOf_51 : decode cX9_talksOf 51 = .ok (.iconst 5, 1) := by decide +kernel
theorem dX9_talksOf_52 : decode cX9_talksOf 52 = .ok (.iadd, 1) := by decide +kernel
theorem dX9_talksOf_53 : decode cX9_talksOf 53 = .ok (.ireturn, 1) := by decide +kernel
theorem dX9_talksOf_54 : decode cX9_talksOf 54 = .ok (.iconst 1, 1) := by decide +kernel
theorem dX9_talksOf_55 : decode cX9_talksOf 55 = .ok (.ireturn, 1) := by decide +kernel
theorem dX9_talksOf_56 : decode cX9_talksOf 56 = .ok (.iload_n 2, 1) := by decide +kernel
theorem dX9_talksOf_57 : decode cX9_talksOf 57 = .ok (.ireturn, 1) := by decide +kernel
def f_X9_talksOf_44 (fu : Nat)  (x2 : Int32) (m : Mem) : Option (Int32 × Mem) := some (((x2 / 2) + 1), m)
set_option maxHeartbeats 4000000 in
set_option maxRecDepth 100000 in
theorem w_X9_talksOf_44 {X : TX} {p : Program} {l : Launch} {e : Env} {s : State} {mi : MethodId} {args : Array Value} {below : List Frame} {meth : Method} {c : Code} {Q : State → Prop} {r : Int32} {mE : Mem} (C : Cx X p s mi args c RX9 cX9_talksOf 3) (hq : RetI X p l e (rmD 1) s mi args below meth c cX9_talksOf .int Q r mE) {fu : Nat} {x2 : Int32} {m : Mem} {H : Heap} {locs : List Loc} {ls : Array Slot} (h : f_X9_talksOf_44 fu x2 m = some (r, mE))  (hW : Wd X s m H locs) (hl : lv_has ls 3 [(2, .int x2)]) : W p l e (rmD 1) s mi args below meth c H locs 0 0 Q (F0 mi 44 ls []) := by
  unfold f_X9_talksOf_44 at h
  refine lv_iload_n C.1 C.2.1 dX9_talksOf_44 rfl (lv_at hl 0 rfl) ?_
  refine lv_iconst (v := 2) C.1 C.2.1 dX9_talksOf_45 rfl ?_
  refine lv_idiv C.1 C.2.1 dX9_talksOf_46 (by decide) ?_
  refine lv_iconst (v := 1) C.1 C.2.1 dX9_talksOf_47 rfl ?_
  refine lv_iadd C.1 C.2.1 dX9_talksOf_48 ?_
  exact ret_i h hq rfl hW dX9_talksOf_49
def f_X9_talksOf (fu : Nat)  (x1 : Int32) (m : Mem) : Option (Int32 × Mem) := doI (f_X9_of fu x1 2 m) (fun r_3 m_2 => doI (f_X9_of fu x1 0 m_2) (fun r_6 m_5 => if r_6 = 2 then (f_X9_talksOf_44 fu r_3 m_5) else (if r_6 = 3 then (some ((r_3 + 5), m_5)) else (if r_6 = 4 then (f_X9_talksOf_44 fu r_3 m_5) else (if r_6 = 5 then (some (1, m_5)) else (some (r_3, m_5)))))))
set_option maxHeartbeats 4000000 in
set_option maxRecDepth 100000 in
theorem w_X9_talksOf {X : TX} {p : Program} {l : Launch} {e : Env} {s : State} {mi : MethodId} {args : Array Value} {below : List Frame} {meth : Method} {c : Code} {Q : State → Prop} {r : Int32} {mE : Mem} (C : Cx X p s mi args c RX9 cX9_talksOf 3) (hq : RetI X p l e (rmD 1) s mi args below meth c cX9_talksOf .int Q r mE) {fu : Nat} {x1 : Int32} {m : Mem} {H : Heap} {locs : List Loc} {ls : Array Slot} (h : f_X9_talksOf fu x1 m = some (r, mE))  (hW : Wd X s m H locs) (hl : lv_has ls 3 [(0, .ref (ad X 20 0)), (1, .int x1)]) : W p l e (rmD 1) s mi args below meth c H locs 0 0 Q (F0 mi 0 ls []) := by
  unfold f_X9_talksOf at h
  refine lv_aload_n C.1 C.2.1 dX9_talksOf_0 rfl (lv_at hl 0 rfl) ?_
  refine lv_iload_n C.1 C.2.1 dX9_talksOf_1 rfl (lv_at hl 1 rfl) ?_
  refine lv_iconst (v := 2) C.1 C.2.1 dX9_talksOf_2 rfl ?_
  obtain ⟨r_3, m_2, hc_1, h⟩ := doI_E h
  refine zr_cVI C hW (c_X9_of (x1 := x1) (x2 := 2) hc_1 ) k_X9_of (zr_recv C hW id_20 zco_20 rfl) w_1141 ⟨Nat.le_of_ble_eq_true rfl, Nat.le_of_ble_eq_true rfl⟩ ⟨Nat.le_refl 0, Nat.le_refl 0⟩ rfl hl.1 rfl (Nat.le_of_ble_eq_true rfl) dX9_talksOf_3 (fun H locs hW => ?_)
  refine lv_istore_n (lv' := [(2, .int r_3), (0, .ref (ad X 20 0)), (1, .int x1)]) C.1 C.2.1 dX9_talksOf_6 rfl hl (by decide) rfl (fun ls hl => ?_)
  refine lv_aload_n C.1 C.2.1 dX9_talksOf_7 rfl (lv_at hl 1 rfl) ?_
  refine lv_iload_n C.1 C.2.1 dX9_talksOf_8 rfl (lv_at hl 2 rfl) ?_
  refine lv_iconst (v := 0) C.1 C.2.1 dX9_talksOf_9 rfl ?_
  obtain ⟨r_6, m_5, hc_4, h⟩ := doI_E h
  refine zr_cVI C hW (c_X9_of (x1 := x1) (x2 := 0) hc_4 ) k_X9_of (zr_recv C hW id_20 zco_20 rfl) w_1141 ⟨Nat.le_of_ble_eq_true rfl, Nat.le_of_ble_eq_true rfl⟩ ⟨Nat.le_refl 0, Nat.le_refl 0⟩ rfl hl.1 rfl (Nat.le_of_ble_eq_true rfl) dX9_talksOf_10 (fun H locs hW => ?_)
  by_cases hc_7 : r_6 = 2
  · have h := ite_t hc_7 h
    refine lv_tableIn (tgt := 44) C.1 C.2.1 dX9_talksOf_13 (by rw [hc_7]; decide) (by rw [hc_7]; decide) (by rw [hc_7]; rfl) (by decide) ?_
    exact w_X9_talksOf_44 C hq  h  hW (lv_sub hl [0] rfl)
  · have h := ite_f hc_7 h
    by_cases hc_8 : r_6 = 3
    · have h := ite_t hc_8 h
      refine lv_tableIn (tgt := 50) C.1 C.2.1 dX9_talksOf_13 (by rw [hc_8]; decide) (by rw [hc_8]; decide) (by rw [hc_8]; rfl) (by decide) ?_
      refine lv_iload_n C.1 C.2.1 dX9_talksOf_50 rfl (lv_at hl 0 rfl) ?_
      refine lv_iconst (v := 5) C.1 C.2.1 dX9_talksOf_51 rfl ?_
      refine lv_iadd C.1 C.2.1 dX9_talksOf_52 ?_
      exact ret_i h hq rfl hW dX9_talksOf_53
    · have h := ite_f hc_8 h
      by_cases hc_9 : r_6 = 4
      · have h := ite_t hc_9 h
        refine lv_tableIn (tgt := 44) C.1 C.2.1 dX9_talksOf_13 (by rw [hc_9]; decide) (by rw [hc_9]; decide) (by rw [hc_9]; rfl) (by decide) ?_
        exact w_X9_talksOf_44 C hq  h  hW (lv_sub hl [0] rfl)
      · have h := ite_f hc_9 h
        by_cases hc_10 : r_6 = 5
        · have h := ite_t hc_10 h
          refine lv_tableIn (tgt := 54) C.1 C.2.1 dX9_talksOf_13 (by rw [hc_10]; decide) (by rw [hc_10]; decide) (by rw [hc_10]; rfl) (by decide) ?_
          refine lv_iconst (v := 1) C.1 C.2.1 dX9_talksOf_54 rfl ?_
          exact ret_i h hq rfl hW dX9_talksOf_55
        · have h := ite_f hc_10 h
          have nhc_7 := ne_k (2) rfl hc_7
          have nhc_8 := ne_k (3) rfl hc_8
          have nhc_9 := ne_k (4) rfl hc_9
          have nhc_10 := ne_k (5) rfl hc_10
          refine lv_tableOut (tgt := 56) C.1 C.2.1 dX9_talksOf_13 (by omega) (by decide) ?_
          refine lv_iload_n C.1 C.2.1 dX9_talksOf_56 rfl (lv_at hl 0 rfl) ?_
          exact ret_i h hq rfl hW dX9_talksOf_57
theorem c_X9_talksOf {X : TX} {l : Launch} {fu : Nat} {x1 : Int32} {m mE : Mem} {r : Int32} (h : f_X9_talksOf fu x1 m = some (r, mE))  : MetI X l yX9_talksOf cX9_talksOf 3 .int 1 [.ref (ad X 20 0), .int x1] m r mE :=
  met_I (by decide) (Nat.le_of_ble_eq_true rfl) (fun p e s mi args below meth c ls Q C hq hW hl => w_X9_talksOf C hq h  hW (lv_sub hl [0, 1] rfl))
theorem k_X9_talksOf : CalV yX9_talksOf cX9_talksOf 3 (some .int) RX9 1 := ⟨w_1151, w_30, w_70, w_1152, by decide +kernel⟩
theorem dX9_doesYield_0 : decode cX9_doesYield 0 = .ok (.aload_n 0, 1) := by decide +kernel
theorem dX9_doesYield_1 : decode cX9_doesYield 1 = .ok (.iload_n 1, 1) := by decide +kernel
theorem dX9_doesYield_2 : decode cX9_doesYield 2 = .ok (.iconst 0, 1) := by decide +kernel
theorem dX9_doesYield_3 : decode cX9_doesYield 3 = .ok (.invokevirtual 97, 3) := by decide +kernel
theorem dX9_doesYield_6 : decode cX9_doesYield 6 = .ok (.iconst 1, 1) := by decide +kernel
theorem dX9_doesYield_7 : decode cX9_doesYield 7 = .ok (.if_icmp .eq 17, 3) := by decide +kernel
theorem dX9_doesYield_10 : decode cX9_doesYield 10 = .ok (.aload_n 0, 1) := by decide +kernel
theorem dX9_doesYield_11 : decode cX9_doesYield 11 = .ok (.iload_n 1, 1) := by decide +kernel
theorem dX9_doesYield_12 : decode cX9_doesYield 12 = .ok (.iconst 0, 1) := by decide +kernel
theorem dX9_doesYield_13 : decode cX9_doesYield 13 = .ok (.invokevirtual 97, 3) := by decide +kernel
theorem dX9_doesYield_16 : decode cX9_doesYield 16 = .ok (.iconst 3, 1) := by decide +kernel
theorem dX9_doesYield_17 : decode cX9_doesYield 17 = .ok (.if_icmp .eq 7, 3) := by decide +kernel
theorem dX9_doesYield_20 : decode cX9_doesYield 20 = .ok (.iconst 1, 1) := by decide +kernel
theorem dX9_doesYield_21 : decode cX9_doesYield 21 = .ok (.goto 4, 3) := by decide +kernel
theorem dX9_doesYield_24 : decode cX9_doesYield 24 = .ok (.iconst 0, 1) := by decide +kernel
theorem dX9_doesYield_25 : decode cX9_doesYield 25 = .ok (.ireturn, 1) := by decide +kernel
def f_X9_doesYield (fu : Nat)  (x1 : Int32) (m : Mem) : Option (Int32 × Mem) := doI (f_X9_of fu x1 0 m) (fun r_3 m_2 => if r_3 = 1 then (some (0, m_2)) else (doI (f_X9_of fu x1 0 m_2) (fun r_6 m_5 => if r_6 = 3 then (some (0, m_5)) else (some (1, m_5)))))
set_option maxHeartbeats 4000000 in
set_option maxRecDepth 100000 in
theorem w_X9_doesYield {X : TX} {p : Program} {l : Launch} {e : Env} {s : State} {mi : MethodId} {args : Array Value} {below : List Frame} {meth : Method} {c : Code} {Q : State → Prop} {r : Int32} {mE : Mem} (C : Cx X p s mi args c RX9 cX9_doesYield 2) (hq : RetI X p l e (rmD 1) s mi args below meth c cX9_doesYield .boolean Q r mE) {fu : Nat} {x1 : Int32} {m : Mem} {H : Heap} {locs : List Loc} {ls : Array Slot} (h : f_X9_doesYield fu x1 m = some (r, mE))  (hW : Wd X s m H locs) (hl : lv_has ls 2 [(0, .ref (ad X 20 0)), (1, .int x1)]) : W p l e (rmD 1) s mi args below meth c H locs 0 0 Q (F0 mi 0 ls []) := by
  unfold f_X9_doesYield at h
  refine lv_aload_n C.1 C.2.1 dX9_doesYield_0 rfl (lv_at hl 0 rfl) ?_
  refine lv_iload_n C.1 C.2.1 dX9_doesYield_1 rfl (lv_at hl 1 rfl) ?_
  refine lv_iconst (v := 0) C.1 C.2.1 dX9_doesYield_2 rfl ?_
  obtain ⟨r_3, m_2, hc_1, h⟩ := doI_E h
  refine zr_cVI C hW (c_X9_of (x1 := x1) (x2 := 0) hc_1 ) k_X9_of (zr_recv C hW id_20 zco_20 rfl) w_1141 ⟨Nat.le_of_ble_eq_true rfl, Nat.le_of_ble_eq_true rfl⟩ ⟨Nat.le_refl 0, Nat.le_refl 0⟩ rfl hl.1 rfl (Nat.le_of_ble_eq_true rfl) dX9_doesYield_3 (fun H locs hW => ?_)
  refine lv_iconst (v := 1) C.1 C.2.1 dX9_doesYield_6 rfl ?_
  refine lv_icmp_eq (tgt := 24) C.1 C.2.1 dX9_doesYield_7 (by decide) (fun hc_8 => ?_) (fun hc_8 => ?_)
  · have h := ite_t hc_8 h
    refine lv_iconst (v := 0) C.1 C.2.1 dX9_doesYield_24 rfl ?_
    exact ret_i h hq rfl hW dX9_doesYield_25
  · have h := ite_f hc_8 h
    refine lv_aload_n C.1 C.2.1 dX9_doesYield_10 rfl (lv_at hl 0 rfl) ?_
    refine lv_iload_n C.1 C.2.1 dX9_doesYield_11 rfl (lv_at hl 1 rfl) ?_
    refine lv_iconst (v := 0) C.1 C.2.1 dX9_doesYield_12 rfl ?_
    obtain ⟨r_6, m_5, hc_4, h⟩ := doI_E h
    refine zr_cVI C hW (c_X9_of (x1 := x1) (x2 := 0) hc_4 ) k_X9_of (zr_recv C hW id_20 zco_20 rfl) w_1141 ⟨Nat.le_of_ble_eq_true rfl, Nat.le_of_ble_eq_true rfl⟩ ⟨Nat.le_refl 0, Nat.le_refl 0⟩ rfl hl.1 rfl (Nat.le_of_ble_eq_true rfl) dX9_doesYield_13 (fun H locs hW => ?_)
    refine lv_iconst (v := 3) C.1 C.2.1 dX9_doesYield_16 rfl ?_
    refine lv_icmp_eq (tgt := 24) C.1 C.2.1 dX9_doesYield_17 (by decide) (fun hc_7 => ?_) (fun hc_7 => ?_)
    · have h := ite_t hc_7 h
      refine lv_iconst (v := 0) C.1 C.2.1 dX9_doesYield_24 rfl ?_
      exact ret_i h hq rfl hW dX9_doesYield_25
    · have h := ite_f hc_7 h
      refine lv_iconst (v := 1) C.1 C.2.1 dX9_doesYield_20 rfl ?_
      refine lv_goto (tgt := 25) C.1 C.2.1 dX9_doesYield_21 (by decide) ?_
      exact ret_i h hq rfl hW dX9_doesYield_25
theorem c_X9_doesYield {X : TX} {l : Launch} {fu : Nat} {x1 : Int32} {m mE : Mem} {r : Int32} (h : f_X9_doesYield fu x1 m = some (r, mE))  : MetI X l yX9_doesYield cX9_doesYield 2 .boolean 1 [.ref (ad X 20 0), .int x1] m r mE :=
  met_I (by decide) (Nat.le_of_ble_eq_true rfl) (fun p e s mi args below meth c ls Q C hq hW hl => w_X9_doesYield C hq h  hW (lv_sub hl [0, 1] rfl))
theorem k_X9_doesYield : CalV yX9_doesYield cX9_doesYield 2 (some .boolean) RX9 1 := ⟨w_1155, w_31, w_70, w_1156, by decide +kernel⟩
theorem dX9_worthOf_0 : decode cX9_worthOf 0 = .ok (.aload_n 0, 1) := by decide +kernel
theorem dX9_worthOf_1 : decode cX9_worthOf 1 = .ok (.iload_n 1, 1) := by decide +kernel
theorem dX9_worthOf_2 : decode cX9_worthOf 2 = .ok (.iconst 2, 1) := by decide +kernel
theorem dX9_worthOf_3 : decode cX9_worthOf 3 = .ok (.invokevirtual 97, 3) := by decide +kernel
theorem dX9_worthOf_6 : decode cX9_worthOf 6 = .ok (.istore_n 2, 1) := by decide +kernel
theorem dX9_worthOf_7 : decode cX9_worthOf 7 = .ok (.aload_n 0, 1) := by decide +kernel
theorem dX9_worthOf_8 : decode cX9_worthOf 8 = .ok (.iload_n 1, 1) := by decide +kernel
theorem dX9_worthOf_9 : decode cX9_worthOf 9 = .ok (.iconst 0, 1) := by decide +kernel
theorem dX9_worthOf_10 : decode cX9_worthOf 10 = .ok (.invokevirtual 97, 3) := by decide +kernel
theorem dX9_worthOf_13 : decode cX9_worthOf 13 = .ok (.tableswitch 59 1 5 #[35, 40, 45, 52, 57], 35) := by decide +kernel
theorem dX9_worthOf_48 : decode cX9_worthOf 48 = .ok (.iload_n 2, 1) := by decide +kernel
theorem dX9_worthOf_49 : decode cX9_worthOf 49 = .ok (.bipush 9, 2) := by decide +kernel
theorem dX9_worthOf_51 : decode cX9_worthOf 51 = .ok (.iadd, 1) := by decide +kernel
theorem dX9_worthOf_52 : decode cX9_worthOf 52 = .ok (.ireturn, 1) := by decide +kernel
theorem dX9_worthOf_53 : decode cX9_worthOf 53 = .ok (.bipush 99, 2) := by decide +kernel
theorem dX9_worthOf_55 : decode cX9_worthOf 55 = .ok (.iload_n 2, 1) := by decide +kernel
theorem dX9_worthOf_56 : decode cX9_worthOf 56 = .ok (.isub, 1) := by decide +kernel
theorem dX9_worthOf_57 : decode cX9_worthOf 57 = .ok (.ireturn, 1) := by decide +kernel
theorem dX9_worthOf_58 : decode cX9_worthOf 58 = .ok (.iconst 2, 1) := by decide +kernel
theorem dX9_worthOf_59 : decode cX9_worthOf 59 = .ok (.iload_n 2, 1) := by decide +kernel
theorem dX9_worthOf_60 : decode cX9_worthOf 60 = .ok (.bipush 9, 2) := by decide +kernel
theorem dX9_worthOf_62 : decode cX9_worthOf 62 = .ok (.iadd, 1) := by decide +kernel
theorem dX9_worthOf_63 : decode cX9_worthOf 63 = .ok (.imul, 1) := by decide +kernel
theorem dX9_worthOf_64 : decode cX9_worthOf 64 = .ok (.ireturn, 1) := by decide +kernel
theorem dX9_worthOf_65 : decode cX9_worthOf 65 = .ok (.bipush 92, 2) := by decide +kernel
theorem dX9_worthOf_67 : decode cX9_worthOf 67 = .ok (.iload_n 2, 1) := by decide +kernel
theorem dX9_worthOf_68 : decode cX9_worthOf 68 = .ok (.isub, 1) := by decide +kernel
theorem dX9_worthOf_69 : decode cX9_worthOf 69 = .ok (.ireturn, 1) := by decide +kernel
theorem dX9_worthOf_70 : decode cX9_worthOf 70 = .ok (.iconst 3, 1) := by decide +kernel
theorem dX9_worthOf_71 : decode cX9_worthOf 71 = .ok (.ireturn, 1) := by decide +kernel
theorem dX9_worthOf_72 : decode cX9_worthOf 72 = .ok (.iload_n 2, 1) := by decide +kernel
theorem dX9_worthOf_73 : decode cX9_worthOf 73 = .ok (.ireturn, 1) := by decide +kernel
def f_X9_worthOf (fu : Nat)  (x1 : Int32) (m : Mem) : Option (Int32 × Mem) := doI (f_X9_of fu x1 2 m) (fun r_3 m_2 => doI (f_X9_of fu x1 0 m_2) (fun r_6 m_5 => if r_6 = 1 then (some ((r_3 + 9), m_5)) else (if r_6 = 2 then (some ((99 - r_3), m_5)) else (if r_6 = 3 then (some ((2 * (r_3 + 9)), m_5)) else (if r_6 = 4 then (some ((92 - r_3), m_5)) else (if r_6 = 5 then (some (3, m_5)) else (some (r_3, m_5))))))))
set_option maxHeartbeats 4000000 in
set_option maxRecDepth 100000 in
theorem w_X9_worthOf {X : TX} {p : Program} {l : Launch} {e : Env} {s : State} {mi : MethodId} {args : Array Value} {below : List Frame} {meth : Method} {c : Code} {Q : State → Prop} {r : Int32} {mE : Mem} (C : Cx X p s mi args c RX9 cX9_worthOf 3) (hq : RetI X p l e (rmD 1) s mi args below meth c cX9_worthOf .int Q r mE) {fu : Nat} {x1 : Int32} {m : Mem} {H : Heap} {locs : List Loc} {ls : Array Slot} (h : f_X9_worthOf fu x1 m = some (r, mE))  (hW : Wd X s m H locs) (hl : lv_has ls 3 [(0, .ref (ad X 20 0)), (1, .int x1)]) : W p l e (rmD 1) s mi args below meth c H locs 0 0 Q (F0 mi 0 ls []) := by
  unfold f_X9_worthOf at h
  refine lv_aload_n C.1 C.2.1 dX9_worthOf_0 rfl (lv_at hl 0 rfl) ?_
  refine lv_iload_n C.1 C.2.1 dX9_worthOf_1 rfl (lv_at hl 1 rfl) ?_
  refine lv_iconst (v := 2) C.1 C.2.1 dX9_worthOf_2 rfl ?_
  obtain ⟨r_3, m_2, hc_1, h⟩ := doI_E h
  refine zr_cVI C hW (c_X9_of (x1 := x1) (x2 := 2) hc_1 ) k_X9_of (zr_recv C hW id_20 zco_20 rfl) w_1141 ⟨Nat.le_of_ble_eq_true rfl, Nat.le_of_ble_eq_true rfl⟩ ⟨Nat.le_refl 0, Nat.le_refl 0⟩ rfl hl.1 rfl (Nat.le_of_ble_eq_true rfl) dX9_worthOf_3 (fun H locs hW => ?_)
  refine lv_istore_n (lv' := [(2, .int r_3), (0, .ref (ad X 20 0)), (1, .int x1)]) C.1 C.2.1 dX9_worthOf_6 rfl hl (by decide) rfl (fun ls hl => ?_)
  refine lv_aload_n C.1 C.2.1 dX9_worthOf_7 rfl (lv_at hl 1 rfl) ?_
  refine lv_iload_n C.1 C.2.1 dX9_worthOf_8 rfl (lv_at hl 2 rfl) ?_
  refine lv_iconst (v := 0) C.1 C.2.1 dX9_worthOf_9 rfl ?_
  obtain ⟨r_6, m_5, hc_4, h⟩ := doI_E h
  refine zr_cVI C hW (c_X9_of (x1 := x1) (x2 := 0) hc_4 ) k_X9_of (zr_recv C hW id_20 zco_20 rfl) w_1141 ⟨Nat.le_of_ble_eq_true rfl, Nat.le_of_ble_eq_true rfl⟩ ⟨Nat.le_refl 0, Nat.le_refl 0⟩ rfl hl.1 rfl (Nat.le_of_ble_eq_true rfl) dX9_worthOf_10 (fun H locs hW => ?_)
  by_cases hc_7 : r_6 = 1
  · have h := ite_t hc_7 h
    refine lv_tableIn (tgt := 48) C.1 C.2.1 dX9_worthOf_13 (by rw [hc_7]; decide) (by rw [hc_7]; decide) (by rw [hc_7]; rfl) (by decide) ?_
    refine lv_iload_n C.1 C.2.1 dX9_worthOf_48 rfl (lv_at hl 0 rfl) ?_
    refine lv_bipush (v := 9) C.1 C.2.1 dX9_worthOf_49 rfl ?_
    refine lv_iadd C.1 C.2.1 dX9_worthOf_51 ?_
    exact ret_i h hq rfl hW dX9_worthOf_52
  · have h := ite_f hc_7 h
    by_cases hc_8 : r_6 = 2
    · have h := ite_t hc_8 h
      refine lv_tableIn (tgt := 53) C.1 C.2.1 dX9_worthOf_13 (by rw [hc_8]; decide) (by rw [hc_8]; decide) (by rw [hc_8]; rfl) (by decide) ?_
      refine lv_bipush (v := 99) C.1 C.2.1 dX9_worthOf_53 rfl ?_
      refine lv_iload_n C.1 C.2.1 dX9_worthOf_55 rfl (lv_at hl 0 rfl) ?_
      refine lv_isub C.1 C.2.1 dX9_worthOf_56 ?_
      exact ret_i h hq rfl hW dX9_worthOf_57
    · have h := ite_f hc_8 h
      by_cases hc_9 : r_6 = 3
      · have h := ite_t hc_9 h
        refine lv_tableIn (tgt := 58) C.1 C.2.1 dX9_worthOf_13 (by rw [hc_9]; decide) (by rw [hc_9]; decide) (by rw [hc_9]; rfl) (by decide) ?_
        refine lv_iconst (v := 2) C.1 C.2.1 dX9_worthOf_58 rfl ?_
        refine lv_iload_n C.1 C.2.1 dX9_worthOf_59 rfl (lv_at hl 0 rfl) ?_
        refine lv_bipush (v := 9) C.1 C.2.1 dX9_worthOf_60 rfl ?_
        refine lv_iadd C.1 C.2.1 dX9_worthOf_62 ?_
        refine lv_imul C.1 C.2.1 dX9_worthOf_63 ?_
        exact ret_i h hq rfl hW dX9_worthOf_64
      · have h := ite_f hc_9 h
        by_cases hc_10 : r_6 = 4
        · have h := ite_t hc_10 h
          refine lv_tableIn (tgt := 65) C.1 C.2.1 dX9_worthOf_13 (by rw [hc_10]; decide) (by rw [hc_10]; decide) (by rw [hc_10]; rfl) (by decide) ?_
          refine lv_bipush (v := 92) C.1 C.2.1 dX9_worthOf_65 rfl ?_
          refine lv_iload_n C.1 C.2.1 dX9_worthOf_67 rfl (lv_at hl 0 rfl) ?_
          refine lv_isub C.1 C.2.1 dX9_worthOf_68 ?_
          exact ret_i h hq rfl hW dX9_worthOf_69
        · have h := ite_f hc_10 h
          by_cases hc_11 : r_6 = 5
          · have h := ite_t hc_11 h
            refine lv_tableIn (tgt := 70) C.1 C.2.1 dX9_worthOf_13 (by rw [hc_11]; decide) (by rw [hc_11]; decide) (by rw [hc_11]; rfl) (by decide) ?_
            refine lv_iconst (v := 3) C.1 C.2.1 dX9_worthOf_70 rfl ?_
            exact ret_i h hq rfl hW dX9_worthOf_71
          · have h := ite_f hc_11 h
            have nhc_7 := ne_k (1) rfl hc_7
            have nhc_8 := ne_k (2) rfl hc_8
            have nhc_9 := ne_k (3) rfl hc_9
            have nhc_10 := ne_k (4) rfl hc_10
            have nhc_11 := ne_k (5) rfl hc_11
            refine lv_tableOut (tgt := 72) C.1 C.2.1 dX9_worthOf_13 (by omega) (by decide) ?_
            refine lv_iload_n C.1 C.2.1 dX9_worthOf_72 rfl (lv_at hl 0 rfl) ?_
            exact ret_i h hq rfl hW dX9_worthOf_73
theorem c_X9_worthOf {X : TX} {l : Launch} {fu : Nat} {x1 : Int32} {m mE : Mem} {r : Int32} (h : f_X9_worthOf fu x1 m = some (r, mE))  : MetI X l yX9_worthOf cX9_worthOf 3 .int 1 [.ref (ad X 20 0), .int x1] m r mE :=
  met_I (by decide) (Nat.le_of_ble_eq_true rfl) (fun p e s mi args below meth c ls Q C hq hW hl => w_X9_worthOf C hq h  hW (lv_sub hl [0, 1] rfl))
theorem k_X9_worthOf : CalV yX9_worthOf cX9_worthOf 3 (some .int) RX9 1 := ⟨w_1159, w_32, w_70, w_1160, by decide +kernel⟩
theorem dX9_told_0 : decode cX9_told 0 = .ok (.aload_n 0, 1) := by decide +kernel
theorem dX9_told_1 : decode cX9_told 1 = .ok (.iload_n 1, 1) := by decide +kernel
theorem dX9_told_2 : decode cX9_told 2 = .ok (.invokevirtual 101, 3) := by decide +kernel
theorem dX9_told_5 : decode cX9_told 5 = .ok (.ifCond .ne 6, 3) := by decide +kernel
theorem dX9_told_8 : decode cX9_told 8 = .ok (.ldc 91, 2) := by decide +kernel
theorem dX9_told_10 : decode cX9_told 10 = .ok (.ireturn, 1) := by decide +kernel
theorem dX9_told_11 : decode cX9_told 11 = .ok (.iload_n 2, 1) := by decide +kernel
theorem dX9_told_12 : decode cX9_told 12 = .ok (.tableswitch 99 0 10 #[60, 60, 60, 60, 60, 60, 60, 67, 73, 79, 93], 60) := by decide +kernel
theorem dX9_told_72 : decode cX9_told 72 = .ok (.aload_n 0, 1) := by decide +kernel
theorem dX9_told_73 : decode cX9_told 73 = .ok (.iload_n 1, 1) := by decide +kernel
theorem dX9_told_74 : decode cX9_told 74 = .ok (.iload_n 2, 1) := by decide +kernel
theorem dX9_told_75 : decode cX9_told 75 = .ok (.invokevirtual 97, 3) := by decide +kernel
theorem dX9_told_78 : decode cX9_told 78 = .ok (.ireturn, 1) := by decide +kernel
theorem dX9_told_79 : decode cX9_told 79 = .ok (.aload_n 0, 1) := by decide +kernel
theorem dX9_told_80 : decode cX9_told 80 = .ok (.iload_n 1, 1) := by decide +kernel
theorem dX9_told_81 : decode cX9_told 81 = .ok (.invokevirtual 105, 3) := by decide +kernel
theorem dX9_told_84 : decode cX9_told 84 = .ok (.ireturn, 1) := by decide +kernel
theorem dX9_told_85 : decode cX9_told 85 = .ok (.aload_n 0, 1) := by decide +kernel
theorem dX9_told_86 : decode cX9_told 86 = .ok (.iload_n 1, 1) := by decide +kernel
theorem dX9_told_87 : decode cX9_told 87 = .ok (.invokevirtual 109, 3) := by decide +kernel
theorem dX9_told_90 : decode cX9_told 90 = .ok (.ireturn, 1) := by decide +kernel
theorem dX9_told_91 : decode cX9_told 91 = .ok (.aload_n 0, 1) := by decide +kernel
theorem dX9_told_92 : decode cX9_told 92 = .ok (.iload_n 1, 1) := by decide +kernel
theorem dX9_told_93 : decode cX9_told 93 = .ok (.invokevirtual 112, 3) := by decide +kernel
theorem dX9_told_96 : decode cX9_told 96 = .ok (.ifCond .eq 7, 3) := by decide +kernel
theorem dX9_told_99 : decode cX9_told 99 = .ok (.iconst 1, 1) := by decide +kernel
theorem dX9_told_100 : decode cX9_told 100 = .ok (.goto 4, 3) := by decide +kernel
theorem dX9_told_103 : decode cX9_told 103 = .ok (.iconst 0, 1) := by decide +kernel
theorem dX9_told_104 : decode cX9_told 104 = .ok (.ireturn, 1) := by decide +kernel
theorem dX9_told_105 : decode cX9_told 105 = .ok (.aload_n 0, 1) := by decide +kernel
theorem dX9_told_106 : decode cX9_told 106 = .ok (.iload_n 1, 1) := by decide +kernel
theorem dX9_told_107 : decode cX9_told 107 = .ok (.invokevirtual 115, 3) := by decide +kernel
theorem dX9_told_110 : decode cX9_told 110 = .ok (.ireturn, 1) := by decide +kernel
theorem dX9_told_111 : decode cX9_told 111 = .ok (.ldc 91, 2) := by decide +kernel
theorem dX9_told_113 : decode cX9_told 113 = .ok (.ireturn, 1) := by decide +kernel
def f_X9_told_72 (fu : Nat)  (x1 : Int32) (x2 : Int32) (m : Mem) : Option (Int32 × Mem) := doI (f_X9_of fu x1 x2 m) (fun r_3 m_2 => some (r_3, m_2))
set_option maxHeartbeats 4000000 in
set_option maxRecDepth 100000 in
theorem w_X9_told_72 {X : TX} {p : Program} {l : Launch} {e : Env} {s : State} {mi : MethodId} {args : Array Value} {below : List Frame} {meth : Method} {c : Code} {Q : State → Prop} {r : Int32} {mE : Mem} (C : Cx X p s mi args c RX9 cX9_told 3) (hq : RetI X p l e (rmD 2) s mi args below meth c cX9_told .int Q r mE) {fu : Nat} {x1 : Int32} {x2 : Int32} {m : Mem} {H : Heap} {locs : List Loc} {ls : Array Slot} (h : f_X9_told_72 fu x1 x2 m = some (r, mE))  (hW : Wd X s m H locs) (hl : lv_has ls 3 [(0, .ref (ad X 20 0)), (1, .int x1), (2, .int x2)]) : W p l e (rmD 2) s mi args below meth c H locs 0 0 Q (F0 mi 72 ls []) := by
  unfold f_X9_told_72 at h
  refine lv_aload_n C.1 C.2.1 dX9_told_72 rfl (lv_at hl 0 rfl) ?_
  refine lv_iload_n C.1 C.2.1 dX9_told_73 rfl (lv_at hl 1 rfl) ?_
  refine lv_iload_n C.1 C.2.1 dX9_told_74 rfl (lv_at hl 2 rfl) ?_
  obtain ⟨r_3, m_2, hc_1, h⟩ := doI_E h
  refine zr_cVI C hW (c_X9_of (x1 := x1) (x2 := x2) hc_1 ) k_X9_of (zr_recv C hW id_20 zco_20 rfl) w_1141 ⟨Nat.le_of_ble_eq_true rfl, Nat.le_of_ble_eq_true rfl⟩ ⟨Nat.le_refl 0, Nat.le_refl 0⟩ rfl hl.1 rfl (Nat.le_of_ble_eq_true rfl) dX9_told_75 (fun H locs hW => ?_)
  exact ret_i h hq rfl hW dX9_told_78
def f_X9_told (fu : Nat)  (x1 : Int32) (x2 : Int32) (m : Mem) : Option (Int32 × Mem) := doI (f_X9_isVoice fu x1 m) (fun r_3 m_2 => if r_3 = 0 then (some ((-1000000001), m_2)) else (if x2 = 0 then (f_X9_told_72 fu x1 x2 m_2) else (if x2 = 1 then (f_X9_told_72 fu x1 x2 m_2) else (if x2 = 2 then (f_X9_told_72 fu x1 x2 m_2) else (if x2 = 3 then (f_X9_told_72 fu x1 x2 m_2) else (if x2 = 4 then (f_X9_told_72 fu x1 x2 m_2) else (if x2 = 5 then (f_X9_told_72 fu x1 x2 m_2) else (if x2 = 6 then (f_X9_told_72 fu x1 x2 m_2) else (if x2 = 7 then (doI (f_X9_waitsOf fu x1 m_2) (fun r_13 m_12 => some (r_13, m_12))) else (if x2 = 8 then (doI (f_X9_talksOf fu x1 m_2) (fun r_17 m_16 => some (r_17, m_16))) else (if x2 = 9 then (doI (f_X9_doesYield fu x1 m_2) (fun r_21 m_20 => if r_21 = 0 then (some (0, m_20)) else (some (1, m_20)))) else (if x2 = 10 then (doI (f_X9_worthOf fu x1 m_2) (fun r_26 m_25 => some (r_26, m_25))) else (some ((-1000000001), m_2))))))))))))))
set_option maxHeartbeats 4000000 in
set_option maxRecDepth 100000 in
theorem w_X9_told {X : TX} {p : Program} {l : Launch} {e : Env} {s : State} {mi : MethodId} {args : Array Value} {below : List Frame} {meth : Method} {c : Code} {Q : State → Prop} {r : Int32} {mE : Mem} (C : Cx X p s mi args c RX9 cX9_told 3) (hq : RetI X p l e (rmD 2) s mi args below meth c cX9_told .int Q r mE) {fu : Nat} {x1 : Int32} {x2 : Int32} {m : Mem} {H : Heap} {locs : List Loc} {ls : Array Slot} (h : f_X9_told fu x1 x2 m = some (r, mE))  (hW : Wd X s m H locs) (hl : lv_has ls 3 [(0, .ref (ad X 20 0)), (1, .int x1), (2, .int x2)]) : W p l e (rmD 2) s mi args below meth c H locs 0 0 Q (F0 mi 0 ls []) := by
  unfold f_X9_told at h
  refine lv_aload_n C.1 C.2.1 dX9_told_0 rfl (lv_at hl 0 rfl) ?_
  refine lv_iload_n C.1 C.2.1 dX9_told_1 rfl (lv_at hl 1 rfl) ?_
  obtain ⟨r_3, m_2, hc_1, h⟩ := doI_E h
  refine zr_cVI C hW (c_X9_isVoice (x1 := x1) hc_1 ) k_X9_isVoice (zr_recv C hW id_20 zco_20 rfl) w_1137 ⟨Nat.le_of_ble_eq_true rfl, Nat.le_of_ble_eq_true rfl⟩ ⟨Nat.le_refl 0, Nat.le_refl 0⟩ rfl hl.1 rfl (Nat.le_of_ble_eq_true rfl) dX9_told_2 (fun H locs hW => ?_)
  refine lv_if_ne (tgt := 11) C.1 C.2.1 dX9_told_5 (by decide) (fun hc_28 => ?_) (fun hc_28 => ?_)
  · have h := ite_f hc_28 h
    refine lv_iload_n C.1 C.2.1 dX9_told_11 rfl (lv_at hl 2 rfl) ?_
    by_cases hc_4 : x2 = 0
    · have h := ite_t hc_4 h
      refine lv_tableIn (tgt := 72) C.1 C.2.1 dX9_told_12 (by rw [hc_4]; decide) (by rw [hc_4]; decide) (by rw [hc_4]; rfl) (by decide) ?_
      exact w_X9_told_72 C hq  h  hW (lv_sub hl [0, 1, 2] rfl)
    · have h := ite_f hc_4 h
      by_cases hc_5 : x2 = 1
      · have h := ite_t hc_5 h
        refine lv_tableIn (tgt := 72) C.1 C.2.1 dX9_told_12 (by rw [hc_5]; decide) (by rw [hc_5]; decide) (by rw [hc_5]; rfl) (by decide) ?_
        exact w_X9_told_72 C hq  h  hW (lv_sub hl [0, 1, 2] rfl)
      · have h := ite_f hc_5 h
        by_cases hc_6 : x2 = 2
        · have h := ite_t hc_6 h
          refine lv_tableIn (tgt := 72) C.1 C.2.1 dX9_told_12 (by rw [hc_6]; decide) (by rw [hc_6]; decide) (by rw [hc_6]; rfl) (by decide) ?_
          exact w_X9_told_72 C hq  h  hW (lv_sub hl [0, 1, 2] rfl)
        · have h := ite_f hc_6 h
          by_cases hc_7 : x2 = 3
          · have h := ite_t hc_7 h
            refine lv_tableIn (tgt := 72) C.1 C.2.1 dX9_told_12 (by rw [hc_7]; decide) (by rw [hc_7]; decide) (by rw [hc_7]; rfl) (by decide) ?_
            exact w_X9_told_72 C hq  h  hW (lv_sub hl [0, 1, 2] rfl)
          · have h := ite_f hc_7 h
            by_cases hc_8 : x2 = 4
            · have h := ite_t hc_8 h
              refine lv_tableIn (tgt := 72) C.1 C.2.1 dX9_told_12 (by rw [hc_8]; decide) (by rw [hc_8]; decide) (by rw [hc_8]; rfl) (by decide) ?_
              exact w_X9_told_72 C hq  h  hW (lv_sub hl [0, 1, 2] rfl)
            · have h := ite_f hc_8 h
              by_cases hc_9 : x2 = 5
              · have h := ite_t hc_9 h
                refine lv_tableIn (tgt := 72) C.1 C.2.1 dX9_told_12 (by rw [hc_9]; decide) (by rw [hc_9]; decide) (by rw [hc_9]; rfl) (by decide) ?_
                exact w_X9_told_72 C hq  h  hW (lv_sub hl [0, 1, 2] rfl)
              · have h := ite_f hc_9 h
                by_cases hc_10 : x2 = 6
                · have h := ite_t hc_10 h
                  refine lv_tableIn (tgt := 72) C.1 C.2.1 dX9_told_12 (by rw [hc_10]; decide) (by rw [hc_10]; decide) (by rw [hc_10]; rfl) (by decide) ?_
                  exact w_X9_told_72 C hq  h  hW (lv_sub hl [0, 1, 2] rfl)
                · have h := ite_f hc_10 h
                  by_cases hc_14 : x2 = 7
                  · have h := ite_t hc_14 h
                    refine lv_tableIn (tgt := 79) C.1 C.2.1 dX9_told_12 (by rw [hc_14]; decide) (by rw [hc_14]; decide) (by rw [hc_14]; rfl) (by decide) ?_
                    refine lv_aload_n C.1 C.2.1 dX9_told_79 rfl (lv_at hl 0 rfl) ?_
                    refine lv_iload_n C.1 C.2.1 dX9_told_80 rfl (lv_at hl 1 rfl) ?_
                    obtain ⟨r_13, m_12, hc_11, h⟩ := doI_E h
                    refine zr_cVI C hW (c_X9_waitsOf (x1 := x1) hc_11 ) k_X9_waitsOf (zr_recv C hW id_20 zco_20 rfl) w_1145 ⟨Nat.le_of_ble_eq_true rfl, Nat.le_of_ble_eq_true rfl⟩ ⟨Nat.le_refl 0, Nat.le_refl 0⟩ rfl hl.1 rfl (Nat.le_of_ble_eq_true rfl) dX9_told_81 (fun H locs hW => ?_)
                    exact ret_i h hq rfl hW dX9_told_84
                  · have h := ite_f hc_14 h
                    by_cases hc_18 : x2 = 8
                    · have h := ite_t hc_18 h
                      refine lv_tableIn (tgt := 85) C.1 C.2.1 dX9_told_12 (by rw [hc_18]; decide) (by rw [hc_18]; decide) (by rw [hc_18]; rfl) (by decide) ?_
                      refine lv_aload_n C.1 C.2.1 dX9_told_85 rfl (lv_at hl 0 rfl) ?_
                      refine lv_iload_n C.1 C.2.1 dX9_told_86 rfl (lv_at hl 1 rfl) ?_
                      obtain ⟨r_17, m_16, hc_15, h⟩ := doI_E h
                      refine zr_cVI C hW (c_X9_talksOf (x1 := x1) hc_15 ) k_X9_talksOf (zr_recv C hW id_20 zco_20 rfl) w_1149 ⟨Nat.le_of_ble_eq_true rfl, Nat.le_of_ble_eq_true rfl⟩ ⟨Nat.le_refl 0, Nat.le_refl 0⟩ rfl hl.1 rfl (Nat.le_of_ble_eq_true rfl) dX9_told_87 (fun H locs hW => ?_)
                      exact ret_i h hq rfl hW dX9_told_90
                    · have h := ite_f hc_18 h
                      by_cases hc_23 : x2 = 9
                      · have h := ite_t hc_23 h
                        refine lv_tableIn (tgt := 91) C.1 C.2.1 dX9_told_12 (by rw [hc_23]; decide) (by rw [hc_23]; decide) (by rw [hc_23]; rfl) (by decide) ?_
                        refine lv_aload_n C.1 C.2.1 dX9_told_91 rfl (lv_at hl 0 rfl) ?_
                        refine lv_iload_n C.1 C.2.1 dX9_told_92 rfl (lv_at hl 1 rfl) ?_
                        obtain ⟨r_21, m_20, hc_19, h⟩ := doI_E h
                        refine zr_cVI C hW (c_X9_doesYield (x1 := x1) hc_19 ) k_X9_doesYield (zr_recv C hW id_20 zco_20 rfl) w_1153 ⟨Nat.le_of_ble_eq_true rfl, Nat.le_of_ble_eq_true rfl⟩ ⟨Nat.le_refl 0, Nat.le_refl 0⟩ rfl hl.1 rfl (Nat.le_of_ble_eq_true rfl) dX9_told_93 (fun H locs hW => ?_)
                        refine lv_if_eq (tgt := 103) C.1 C.2.1 dX9_told_96 (by decide) (fun hc_22 => ?_) (fun hc_22 => ?_)
                        · have h := ite_t hc_22 h
                          refine lv_iconst (v := 0) C.1 C.2.1 dX9_told_103 rfl ?_
                          exact ret_i h hq rfl hW dX9_told_104
                        · have h := ite_f hc_22 h
                          refine lv_iconst (v := 1) C.1 C.2.1 dX9_told_99 rfl ?_
                          refine lv_goto (tgt := 104) C.1 C.2.1 dX9_told_100 (by decide) ?_
                          exact ret_i h hq rfl hW dX9_told_104
                      · have h := ite_f hc_23 h
                        by_cases hc_27 : x2 = 10
                        · have h := ite_t hc_27 h
                          refine lv_tableIn (tgt := 105) C.1 C.2.1 dX9_told_12 (by rw [hc_27]; decide) (by rw [hc_27]; decide) (by rw [hc_27]; rfl) (by decide) ?_
                          refine lv_aload_n C.1 C.2.1 dX9_told_105 rfl (lv_at hl 0 rfl) ?_
                          refine lv_iload_n C.1 C.2.1 dX9_told_106 rfl (lv_at hl 1 rfl) ?_
                          obtain ⟨r_26, m_25, hc_24, h⟩ := doI_E h
                          refine zr_cVI C hW (c_X9_worthOf (x1 := x1) hc_24 ) k_X9_worthOf (zr_recv C hW id_20 zco_20 rfl) w_1157 ⟨Nat.le_of_ble_eq_true rfl, Nat.le_of_ble_eq_true rfl⟩ ⟨Nat.le_refl 0, Nat.le_refl 0⟩ rfl hl.1 rfl (Nat.le_of_ble_eq_true rfl) dX9_told_107 (fun H locs hW => ?_)
                          exact ret_i h hq rfl hW dX9_told_110
                        · have h := ite_f hc_27 h
                          have nhc_4 := ne_k (0) rfl hc_4
                          have nhc_5 := ne_k (1) rfl hc_5
                          have nhc_6 := ne_k (2) rfl hc_6
                          have nhc_7 := ne_k (3) rfl hc_7
                          have nhc_8 := ne_k (4) rfl hc_8
                          have nhc_9 := ne_k (5) rfl hc_9
                          have nhc_10 := ne_k (6) rfl hc_10
                          have nhc_14 := ne_k (7) rfl hc_14
                          have nhc_18 := ne_k (8) rfl hc_18
                          have nhc_23 := ne_k (9) rfl hc_23
                          have nhc_27 := ne_k (10) rfl hc_27
                          refine lv_tableOut (tgt := 111) C.1 C.2.1 dX9_told_12 (by omega) (by decide) ?_
                          refine lv_ldc C.1 C.2.1 C.2.2.2.1 (C.2.2.2.2.1 _ w_1123) dX9_told_111 ?_
                          exact ret_i h hq rfl hW dX9_told_113
  · have h := ite_t hc_28 h
    refine lv_ldc C.1 C.2.1 C.2.2.2.1 (C.2.2.2.2.1 _ w_1123) dX9_told_8 ?_
    exact ret_i h hq rfl hW dX9_told_10
theorem c_X9_told {X : TX} {l : Launch} {fu : Nat} {x1 : Int32} {x2 : Int32} {m mE : Mem} {r : Int32} (h : f_X9_told fu x1 x2 m = some (r, mE))  : MetI X l yX9_told cX9_told 3 .int 2 [.ref (ad X 20 0), .int x1, .int x2] m r mE :=
  met_I (by decide) (Nat.le_of_ble_eq_true rfl) (fun p e s mi args below meth c ls Q C hq hW hl => w_X9_told C hq h  hW (lv_sub hl [0, 1, 2] rfl))
theorem k_X9_told : CalV yX9_told cX9_told 3 (some .int) RX9 2 := ⟨w_1134, w_1135, w_70, w_1136, by decide +kernel⟩
theorem dX9_isUnder_0 : decode cX9_isUnder 0 = .ok (.iload_n 1, 1) := by decide +kernel
theorem dX9_isUnder_1 : decode cX9_isUnder 1 = .ok (.ifCond .eq 28, 3) := by decide +kernel
theorem dX9_isUnder_4 : decode cX9_isUnder 4 = .ok (.iload_n 0, 1) := by decide +kernel
theorem dX9_isUnder_5 : decode cX9_isUnder 5 = .ok (.iload_n 1, 1) := by decide +kernel
theorem dX9_isUnder_6 : decode cX9_isUnder 6 = .ok (.if_icmp .eq 23, 3) := by decide +kernel
theorem dX9_isUnder_9 : decode cX9_isUnder 9 = .ok (.iload_n 1, 1) := by decide +kernel
theorem dX9_isUnder_10 : decode cX9_isUnder 10 = .ok (.iconst 1, 1) := by decide +kernel
theorem dX9_isUnder_11 : decode cX9_isUnder 11 = .ok (.if_icmp .ne 8, 3) := by decide +kernel
theorem dX9_isUnder_14 : decode cX9_isUnder 14 = .ok (.iload_n 0, 1) := by decide +kernel
theorem dX9_isUnder_15 : decode cX9_isUnder 15 = .ok (.iconst 3, 1) := by decide +kernel
theorem dX9_isUnder_16 : decode cX9_isUnder 16 = .ok (.if_icmp .eq 13, 3) := by decide +kernel
theorem dX9_isUnder_19 : decode cX9_isUnder 19 = .ok (.iload_n 1, 1) := by decide +kernel
theorem dX9_isUnder_20 : decode cX9_isUnder 20 = .ok (.iconst 2, 1) := by decide +kernel
theorem dX9_isUnder_21 : decode cX9_isUnder 21 = .ok (.if_icmp .ne 12, 3) := by decide +kernel
theorem dX9_isUnder_24 : decode cX9_isUnder 24 = .ok (.iload_n 0, 1) := by decide +kernel
theorem dX9_isUnder_25 : decode cX9_isUnder 25 = .ok (.iconst 4, 1) := by decide +kernel
theorem dX9_isUnder_26 : decode cX9_isUnder 26 = .ok (.if_icmp .ne 7, 3) := by decide +kernel
theorem dX9_isUnder_29 : decode cX9_isUnder 29 = .ok (.iconst 1, 1) := by decide +kernel
theorem dX9_isUnder_30 : decode cX9_isUnder 30 = .ok (.goto 4, 3) := by decide +kernel
theorem dX9_isUnder_33 : decode cX9_isUnder 33 = .ok (.iconst 0, 1) := by decide +kernel
theorem dX9_isUnder_34 : decode cX9_isUnder 34 = .ok (.ireturn, 1) := by decide +kernel
def f_X9_isUnder_29 (fu : Nat)   (m : Mem) : Option (Int32 × Mem) := some (1, m)
set_option maxHeartbeats 4000000 in
set_option maxRecDepth 100000 in
theorem w_X9_isUnder_29 {X : TX} {p : Program} {l : Launch} {e : Env} {s : State} {mi : MethodId} {args : Array Value} {below : List Frame} {meth : Method} {c : Code} {Q : State → Prop} {r : Int32} {mE : Mem} (C : Cx X p s mi args c RX9 cX9_isUnder 2) (hq : RetI X p l e (rmD 0) s mi args below meth c cX9_isUnder .boolean Q r mE) {fu : Nat}  {m : Mem} {H : Heap} {locs : List Loc} {ls : Array Slot} (h : f_X9_isUnder_29 fu  m = some (r, mE))  (hW : Wd X s m H locs) (hl : lv_has ls 2 []) : W p l e (rmD 0) s mi args below meth c H locs 0 0 Q (F0 mi 29 ls []) := by
  unfold f_X9_isUnder_29 at h
  refine lv_iconst (v := 1) C.1 C.2.1 dX9_isUnder_29 rfl ?_
  refine lv_goto (tgt := 34) C.1 C.2.1 dX9_isUnder_30 (by decide) ?_
  exact ret_i h hq rfl hW dX9_isUnder_34
def f_X9_isUnder_19 (fu : Nat)  (x0 : Int32) (x1 : Int32) (m : Mem) : Option (Int32 × Mem) := if x1 = 2 then (if x0 = 4 then (f_X9_isUnder_29 fu m) else (some (0, m))) else (some (0, m))
set_option maxHeartbeats 4000000 in
set_option maxRecDepth 100000 in
theorem w_X9_isUnder_19 {X : TX} {p : Program} {l : Launch} {e : Env} {s : State} {mi : MethodId} {args : Array Value} {below : List Frame} {meth : Method} {c : Code} {Q : State → Prop} {r : Int32} {mE : Mem} (C : Cx X p s mi args c RX9 cX9_isUnder 2) (hq : RetI X p l e (rmD 0) s mi args below meth c cX9_isUnder .boolean Q r mE) {fu : Nat} {x0 : Int32} {x1 : Int32} {m : Mem} {H : Heap} {locs : List Loc} {ls : Array Slot} (h : f_X9_isUnder_19 fu x0 x1 m = some (r, mE))  (hW : Wd X s m H locs) (hl : lv_has ls 2 [(0, .int x0), (1, .int x1)]) : W p l e (rmD 0) s mi args below meth c H locs 0 0 Q (F0 mi 19 ls []) := by
  unfold f_X9_isUnder_19 at h
  refine lv_iload_n C.1 C.2.1 dX9_isUnder_19 rfl (lv_at hl 1 rfl) ?_
  refine lv_iconst (v := 2) C.1 C.2.1 dX9_isUnder_20 rfl ?_
  refine lv_icmp_ne (tgt := 33) C.1 C.2.1 dX9_isUnder_21 (by decide) (fun hc_2 => ?_) (fun hc_2 => ?_)
  · have h := ite_f hc_2 h
    refine lv_iconst (v := 0) C.1 C.2.1 dX9_isUnder_33 rfl ?_
    exact ret_i h hq rfl hW dX9_isUnder_34
  · have h := ite_t hc_2 h
    refine lv_iload_n C.1 C.2.1 dX9_isUnder_24 rfl (lv_at hl 0 rfl) ?_
    refine lv_iconst (v := 4) C.1 C.2.1 dX9_isUnder_25 rfl ?_
    refine lv_icmp_ne (tgt := 33) C.1 C.2.1 dX9_isUnder_26 (by decide) (fun hc_1 => ?_) (fun hc_1 => ?_)
    · have h := ite_f hc_1 h
      refine lv_iconst (v := 0) C.1 C.2.1 dX9_isUnder_33 rfl ?_
      exact ret_i h hq rfl hW dX9_isUnder_34
    · have h := ite_t hc_1 h
      exact w_X9_isUnder_29 C hq  h  hW (lv_sub hl [] rfl)
def f_X9_isUnder (fu : Nat)  (x0 : Int32) (x1 : Int32) (m : Mem) : Option (Int32 × Mem) := if x1 = 0 then (f_X9_isUnder_29 fu m) else (if x0 = x1 then (f_X9_isUnder_29 fu m) else (if x1 = 1 then (if x0 = 3 then (f_X9_isUnder_29 fu m) else (f_X9_isUnder_19 fu x0 x1 m)) else (f_X9_isUnder_19 fu x0 x1 m)))
set_option maxHeartbeats 4000000 in
set_option maxRecDepth 100000 in
theorem w_X9_isUnder {X : TX} {p : Program} {l : Launch} {e : Env} {s : State} {mi : MethodId} {args : Array Value} {below : List Frame} {meth : Method} {c : Code} {Q : State → Prop} {r : Int32} {mE : Mem} (C : Cx X p s mi args c RX9 cX9_isUnder 2) (hq : RetI X p l e (rmD 0) s mi args below meth c cX9_isUnder .boolean Q r mE) {fu : Nat} {x0 : Int32} {x1 : Int32} {m : Mem} {H : Heap} {locs : List Loc} {ls : Array Slot} (h : f_X9_isUnder fu x0 x1 m = some (r, mE))  (hW : Wd X s m H locs) (hl : lv_has ls 2 [(0, .int x0), (1, .int x1)]) : W p l e (rmD 0) s mi args below meth c H locs 0 0 Q (F0 mi 0 ls []) := by
  unfold f_X9_isUnder at h
  refine lv_iload_n C.1 C.2.1 dX9_isUnder_0 rfl (lv_at hl 1 rfl) ?_
  refine lv_if_eq (tgt := 29) C.1 C.2.1 dX9_isUnder_1 (by decide) (fun hc_4 => ?_) (fun hc_4 => ?_)
  · have h := ite_t hc_4 h
    exact w_X9_isUnder_29 C hq  h  hW (lv_sub hl [] rfl)
  · have h := ite_f hc_4 h
    refine lv_iload_n C.1 C.2.1 dX9_isUnder_4 rfl (lv_at hl 0 rfl) ?_
    refine lv_iload_n C.1 C.2.1 dX9_isUnder_5 rfl (lv_at hl 1 rfl) ?_
    refine lv_icmp_eq (tgt := 29) C.1 C.2.1 dX9_isUnder_6 (by decide) (fun hc_3 => ?_) (fun hc_3 => ?_)
    · have h := ite_t hc_3 h
      exact w_X9_isUnder_29 C hq  h  hW (lv_sub hl [] rfl)
    · have h := ite_f hc_3 h
      refine lv_iload_n C.1 C.2.1 dX9_isUnder_9 rfl (lv_at hl 1 rfl) ?_
      refine lv_iconst (v := 1) C.1 C.2.1 dX9_isUnder_10 rfl ?_
      refine lv_icmp_ne (tgt := 19) C.1 C.2.1 dX9_isUnder_11 (by decide) (fun hc_2 => ?_) (fun hc_2 => ?_)
      · have h := ite_f hc_2 h
        exact w_X9_isUnder_19 C hq  h  hW (lv_sub hl [0, 1] rfl)
      · have h := ite_t hc_2 h
        refine lv_iload_n C.1 C.2.1 dX9_isUnder_14 rfl (lv_at hl 0 rfl) ?_
        refine lv_iconst (v := 3) C.1 C.2.1 dX9_isUnder_15 rfl ?_
        refine lv_icmp_eq (tgt := 29) C.1 C.2.1 dX9_isUnder_16 (by decide) (fun hc_1 => ?_) (fun hc_1 => ?_)
        · have h := ite_t hc_1 h
          exact w_X9_isUnder_29 C hq  h  hW (lv_sub hl [] rfl)
        · have h := ite_f hc_1 h
          exact w_X9_isUnder_19 C hq  h  hW (lv_sub hl [0, 1] rfl)
theorem c_X9_isUnder {X : TX} {l : Launch} {fu : Nat} {x0 : Int32} {x1 : Int32} {m mE : Mem} {r : Int32} (h : f_X9_isUnder fu x0 x1 m = some (r, mE))  : MetI X l yX9_isUnder cX9_isUnder 2 .boolean 0 [.int x0, .int x1] m r mE :=
  met_I (by decide) (Nat.le_of_ble_eq_true rfl) (fun p e s mi args below meth c ls Q C hq hW hl => w_X9_isUnder C hq h  hW (lv_sub hl [0, 1] rfl))
theorem k_X9_isUnder : CalS yX9_isUnder cX9_isUnder 2 (some .boolean) 2 := ⟨w_1166, w_70, w_1167, by decide +kernel⟩
theorem dX9_as_0 : decode cX9_as 0 = .ok (.aload_n 0, 1) := by decide +kernel
theorem dX9_as_1 : decode cX9_as 1 = .ok (.iload_n 1, 1) := by decide +kernel
theorem dX9_as_2 : decode cX9_as 2 = .ok (.invokevirtual 101, 3) := by decide +kernel
theorem dX9_as_5 : decode cX9_as 5 = .ok (.ifCond .eq 12, 3) := by decide +kernel
theorem dX9_as_8 : decode cX9_as 8 = .ok (.iload_n 2, 1) := by decide +kernel
theorem dX9_as_9 : decode cX9_as 9 = .ok (.iconst 0, 1) := by decide +kernel
theorem dX9_as_10 : decode cX9_as 10 = .ok (.iconst 5, 1) := by decide +kernel
theorem dX9_as_11 : decode cX9_as 11 = .ok (.invokestatic 79, 3) := by decide +kernel
theorem dX9_as_14 : decode cX9_as 14 = .ok (.ifCond .ne 6, 3) := by decide +kernel
theorem dX9_as_17 : decode cX9_as 17 = .ok (.ldc 91, 2) := by decide +kernel
theorem dX9_as_19 : decode cX9_as 19 = .ok (.ireturn, 1) := by decide +kernel
theorem dX9_as_20 : decode cX9_as 20 = .ok (.aload_n 0, 1) := by decide +kernel
theorem dX9_as_21 : decode cX9_as 21 = .ok (.iload_n 1, 1) := by decide +kernel
theorem dX9_as_22 : decode cX9_as 22 = .ok (.iconst 0, 1) := by decide +kernel
theorem dX9_as_23 : decode cX9_as 23 = .ok (.invokevirtual 97, 3) := by decide +kernel
theorem dX9_as_26 : decode cX9_as 26 = .ok (.iload_n 2, 1) := by decide +kernel
theorem dX9_as_27 : decode cX9_as 27 = .ok (.invokestatic 118, 3) := by decide +kernel
theorem dX9_as_30 : decode cX9_as 30 = .ok (.ifCond .eq 12, 3) := by decide +kernel
theorem dX9_as_33 : decode cX9_as 33 = .ok (.aload_n 0, 1) := by decide +kernel
theorem dX9_as_34 : decode cX9_as 34 = .ok (.iload_n 1, 1) := by decide +kernel
theorem dX9_as_35 : decode cX9_as 35 = .ok (.iconst 1, 1) := by decide +kernel
theorem dX9_as_36 : decode cX9_as 36 = .ok (.invokevirtual 97, 3) := by decide +kernel
theorem dX9_as_39 : decode cX9_as 39 = .ok (.goto 5, 3) := by decide +kernel
theorem dX9_as_42 : decode cX9_as 42 = .ok (.ldc 121, 2) := by decide +kernel
theorem dX9_as_44 : decode cX9_as 44 = .ok (.ireturn, 1) := by decide +kernel
def f_X9_as (fu : Nat)  (x1 : Int32) (x2 : Int32) (m : Mem) : Option (Int32 × Mem) := doI (f_X9_isVoice fu x1 m) (fun r_3 m_2 => if r_3 = 0 then (some ((-1000000001), m_2)) else (doI (f_X9_in fu x2 0 5 m_2) (fun r_6 m_5 => if r_6 = 0 then (some ((-1000000001), m_5)) else (doI (f_X9_of fu x1 0 m_5) (fun r_9 m_8 => doI (f_X9_isUnder fu r_9 x2 m_8) (fun r_12 m_11 => if r_12 = 0 then (some ((-1000000012), m_11)) else (doI (f_X9_of fu x1 1 m_11) (fun r_15 m_14 => some (r_15, m_14)))))))))
set_option maxHeartbeats 4000000 in
set_option maxRecDepth 100000 in
theorem w_X9_as {X : TX} {p : Program} {l : Launch} {e : Env} {s : State} {mi : MethodId} {args : Array Value} {below : List Frame} {meth : Method} {c : Code} {Q : State → Prop} {r : Int32} {mE : Mem} (C : Cx X p s mi args c RX9 cX9_as 3) (hq : RetI X p l e (rmD 2) s mi args below meth c cX9_as .int Q r mE) {fu : Nat} {x1 : Int32} {x2 : Int32} {m : Mem} {H : Heap} {locs : List Loc} {ls : Array Slot} (h : f_X9_as fu x1 x2 m = some (r, mE))  (hW : Wd X s m H locs) (hl : lv_has ls 3 [(0, .ref (ad X 20 0)), (1, .int x1), (2, .int x2)]) : W p l e (rmD 2) s mi args below meth c H locs 0 0 Q (F0 mi 0 ls []) := by
  unfold f_X9_as at h
  refine lv_aload_n C.1 C.2.1 dX9_as_0 rfl (lv_at hl 0 rfl) ?_
  refine lv_iload_n C.1 C.2.1 dX9_as_1 rfl (lv_at hl 1 rfl) ?_
  obtain ⟨r_3, m_2, hc_1, h⟩ := doI_E h
  refine zr_cVI C hW (c_X9_isVoice (x1 := x1) hc_1 ) k_X9_isVoice (zr_recv C hW id_20 zco_20 rfl) w_1137 ⟨Nat.le_of_ble_eq_true rfl, Nat.le_of_ble_eq_true rfl⟩ ⟨Nat.le_refl 0, Nat.le_refl 0⟩ rfl hl.1 rfl (Nat.le_of_ble_eq_true rfl) dX9_as_2 (fun H locs hW => ?_)
  refine lv_if_eq (tgt := 17) C.1 C.2.1 dX9_as_5 (by decide) (fun hc_18 => ?_) (fun hc_18 => ?_)
  · have h := ite_t hc_18 h
    refine lv_ldc C.1 C.2.1 C.2.2.2.1 (C.2.2.2.2.1 _ w_1123) dX9_as_17 ?_
    exact ret_i h hq rfl hW dX9_as_19
  · have h := ite_f hc_18 h
    refine lv_iload_n C.1 C.2.1 dX9_as_8 rfl (lv_at hl 2 rfl) ?_
    refine lv_iconst (v := 0) C.1 C.2.1 dX9_as_9 rfl ?_
    refine lv_iconst (v := 5) C.1 C.2.1 dX9_as_10 rfl ?_
    obtain ⟨r_6, m_5, hc_4, h⟩ := doI_E h
    refine zr_cSI C hW (c_X9_in (x0 := x2) (x1 := 0) (x2 := 5) hc_4 ) k_X9_in w_1117 ⟨Nat.le_of_ble_eq_true rfl, Nat.le_of_ble_eq_true rfl⟩ ⟨Nat.le_refl 0, Nat.le_refl 0⟩ rfl hl.1 rfl (Nat.le_of_ble_eq_true rfl) dX9_as_11 (fun H locs hW => ?_)
    refine lv_if_ne (tgt := 20) C.1 C.2.1 dX9_as_14 (by decide) (fun hc_17 => ?_) (fun hc_17 => ?_)
    · have h := ite_f hc_17 h
      refine lv_aload_n C.1 C.2.1 dX9_as_20 rfl (lv_at hl 0 rfl) ?_
      refine lv_iload_n C.1 C.2.1 dX9_as_21 rfl (lv_at hl 1 rfl) ?_
      refine lv_iconst (v := 0) C.1 C.2.1 dX9_as_22 rfl ?_
      obtain ⟨r_9, m_8, hc_7, h⟩ := doI_E h
      refine zr_cVI C hW (c_X9_of (x1 := x1) (x2 := 0) hc_7 ) k_X9_of (zr_recv C hW id_20 zco_20 rfl) w_1141 ⟨Nat.le_of_ble_eq_true rfl, Nat.le_of_ble_eq_true rfl⟩ ⟨Nat.le_refl 0, Nat.le_refl 0⟩ rfl hl.1 rfl (Nat.le_of_ble_eq_true rfl) dX9_as_23 (fun H locs hW => ?_)
      refine lv_iload_n C.1 C.2.1 dX9_as_26 rfl (lv_at hl 2 rfl) ?_
      obtain ⟨r_12, m_11, hc_10, h⟩ := doI_E h
      refine zr_cSI C hW (c_X9_isUnder (x0 := r_9) (x1 := x2) hc_10 ) k_X9_isUnder w_1165 ⟨Nat.le_of_ble_eq_true rfl, Nat.le_of_ble_eq_true rfl⟩ ⟨Nat.le_refl 0, Nat.le_refl 0⟩ rfl hl.1 rfl (Nat.le_of_ble_eq_true rfl) dX9_as_27 (fun H locs hW => ?_)
      refine lv_if_eq (tgt := 42) C.1 C.2.1 dX9_as_30 (by decide) (fun hc_16 => ?_) (fun hc_16 => ?_)
      · have h := ite_t hc_16 h
        refine lv_ldc C.1 C.2.1 C.2.2.2.1 (C.2.2.2.2.1 _ w_1168) dX9_as_42 ?_
        exact ret_i h hq rfl hW dX9_as_44
      · have h := ite_f hc_16 h
        refine lv_aload_n C.1 C.2.1 dX9_as_33 rfl (lv_at hl 0 rfl) ?_
        refine lv_iload_n C.1 C.2.1 dX9_as_34 rfl (lv_at hl 1 rfl) ?_
        refine lv_iconst (v := 1) C.1 C.2.1 dX9_as_35 rfl ?_
        obtain ⟨r_15, m_14, hc_13, h⟩ := doI_E h
        refine zr_cVI C hW (c_X9_of (x1 := x1) (x2 := 1) hc_13 ) k_X9_of (zr_recv C hW id_20 zco_20 rfl) w_1141 ⟨Nat.le_of_ble_eq_true rfl, Nat.le_of_ble_eq_true rfl⟩ ⟨Nat.le_refl 0, Nat.le_refl 0⟩ rfl hl.1 rfl (Nat.le_of_ble_eq_true rfl) dX9_as_36 (fun H locs hW => ?_)
        refine lv_goto (tgt := 44) C.1 C.2.1 dX9_as_39 (by decide) ?_
        exact ret_i h hq rfl hW dX9_as_44
    · have h := ite_t hc_17 h
      refine lv_ldc C.1 C.2.1 C.2.2.2.1 (C.2.2.2.2.1 _ w_1123) dX9_as_17 ?_
      exact ret_i h hq rfl hW dX9_as_19
theorem c_X9_as {X : TX} {l : Launch} {fu : Nat} {x1 : Int32} {x2 : Int32} {m mE : Mem} {r : Int32} (h : f_X9_as fu x1 x2 m = some (r, mE))  : MetI X l yX9_as cX9_as 3 .int 2 [.ref (ad X 20 0), .int x1, .int x2] m r mE :=
  met_I (by decide) (Nat.le_of_ble_eq_true rfl) (fun p e s mi args below meth c ls Q C hq hW hl => w_X9_as C hq h  hW (lv_sub hl [0, 1, 2] rfl))
theorem k_X9_as : CalV yX9_as cX9_as 3 (some .int) RX9 2 := ⟨w_1162, w_1163, w_70, w_1164, by decide +kernel⟩
theorem dX9_turns_0 : decode cX9_turns 0 = .ok (.aload_n 0, 1) := by decide +kernel
theorem dX9_turns_1 : decode cX9_turns 1 = .ok (.iload_n 1, 1) := by decide +kernel
theorem dX9_turns_2 : decode cX9_turns 2 = .ok (.invokevirtual 101, 3) := by decide +kernel
theorem dX9_turns_5 : decode cX9_turns 5 = .ok (.ifCond .eq 27, 3) := by decide +kernel
theorem dX9_turns_8 : decode cX9_turns 8 = .ok (.iload_n 2, 1) := by decide +kernel
theorem dX9_turns_9 : decode cX9_turns 9 = .ok (.iconst 0, 1) := by decide +kernel
theorem dX9_turns_10 : decode cX9_turns 10 = .ok (.iconst 5, 1) := by decide +kernel
theorem dX9_turns_11 : decode cX9_turns 11 = .ok (.invokestatic 79, 3) := by decide +kernel
theorem dX9_turns_14 : decode cX9_turns 14 = .ok (.ifCond .eq 18, 3) := by decide +kernel
theorem dX9_turns_17 : decode cX9_turns 17 = .ok (.aload_n 0, 1) := by decide +kernel
theorem dX9_turns_18 : decode cX9_turns 18 = .ok (.bipush 16, 2) := by decide +kernel
theorem dX9_turns_20 : decode cX9_turns 20 = .ok (.bipush 7, 2) := by decide +kernel
theorem dX9_turns_22 : decode cX9_turns 22 = .ok (.iload_n 1, 1) := by decide +kernel
theorem dX9_turns_23 : decode cX9_turns 23 = .ok (.imul, 1) := by decide +kernel
theorem dX9_turns_24 : decode cX9_turns 24 = .ok (.iadd, 1) := by decide +kernel
theorem dX9_turns_25 : decode cX9_turns 25 = .ok (.iload_n 2, 1) := by decide +kernel
theorem dX9_turns_26 : decode cX9_turns 26 = .ok (.invokevirtual 122, 3) := by decide +kernel
theorem dX9_turns_29 : decode cX9_turns 29 = .ok (.goto 5, 3) := by decide +kernel
theorem dX9_turns_32 : decode cX9_turns 32 = .ok (.ldc 91, 2) := by decide +kernel
theorem dX9_turns_34 : decode cX9_turns 34 = .ok (.ireturn, 1) := by decide +kernel
def f_X9_turns (fu : Nat)  (x1 : Int32) (x2 : Int32) (m : Mem) : Option (Int32 × Mem) := doI (f_X9_isVoice fu x1 m) (fun r_3 m_2 => if r_3 = 0 then (some ((-1000000001), m_2)) else (doI (f_X9_in fu x2 0 5 m_2) (fun r_6 m_5 => if r_6 = 0 then (some ((-1000000001), m_5)) else (doI (f_X9_swaps fu (16 + (7 * x1)) x2 m_5) (fun r_9 m_8 => some (r_9, m_8))))))
set_option maxHeartbeats 4000000 in
set_option maxRecDepth 100000 in
theorem w_X9_turns {X : TX} {p : Program} {l : Launch} {e : Env} {s : State} {mi : MethodId} {args : Array Value} {below : List Frame} {meth : Method} {c : Code} {Q : State → Prop} {r : Int32} {mE : Mem} (C : Cx X p s mi args c RX9 cX9_turns 3) (hq : RetI X p l e (rmD 2) s mi args below meth c cX9_turns .int Q r mE) {fu : Nat} {x1 : Int32} {x2 : Int32} {m : Mem} {H : Heap} {locs : List Loc} {ls : Array Slot} (h : f_X9_turns fu x1 x2 m = some (r, mE))  (hW : Wd X s m H locs) (hl : lv_has ls 3 [(0, .ref (ad X 20 0)), (1, .int x1), (2, .int x2)]) : W p l e (rmD 2) s mi args below meth c H locs 0 0 Q (F0 mi 0 ls []) := by
  unfold f_X9_turns at h
  refine lv_aload_n C.1 C.2.1 dX9_turns_0 rfl (lv_at hl 0 rfl) ?_
  refine lv_iload_n C.1 C.2.1 dX9_turns_1 rfl (lv_at hl 1 rfl) ?_
  obtain ⟨r_3, m_2, hc_1, h⟩ := doI_E h
  refine zr_cVI C hW (c_X9_isVoice (x1 := x1) hc_1 ) k_X9_isVoice (zr_recv C hW id_20 zco_20 rfl) w_1137 ⟨Nat.le_of_ble_eq_true rfl, Nat.le_of_ble_eq_true rfl⟩ ⟨Nat.le_refl 0, Nat.le_refl 0⟩ rfl hl.1 rfl (Nat.le_of_ble_eq_true rfl) dX9_turns_2 (fun H locs hW => ?_)
  refine lv_if_eq (tgt := 32) C.1 C.2.1 dX9_turns_5 (by decide) (fun hc_11 => ?_) (fun hc_11 => ?_)
  · have h := ite_t hc_11 h
    refine lv_ldc C.1 C.2.1 C.2.2.2.1 (C.2.2.2.2.1 _ w_1123) dX9_turns_32 ?_
    exact ret_i h hq rfl hW dX9_turns_34
  · have h := ite_f hc_11 h
    refine lv_iload_n C.1 C.2.1 dX9_turns_8 rfl (lv_at hl 2 rfl) ?_
    refine lv_iconst (v := 0) C.1 C.2.1 dX9_turns_9 rfl ?_
    refine lv_iconst (v := 5) C.1 C.2.1 dX9_turns_10 rfl ?_
    obtain ⟨r_6, m_5, hc_4, h⟩ := doI_E h
    refine zr_cSI C hW (c_X9_in (x0 := x2) (x1 := 0) (x2 := 5) hc_4 ) k_X9_in w_1117 ⟨Nat.le_of_ble_eq_true rfl, Nat.le_of_ble_eq_true rfl⟩ ⟨Nat.le_refl 0, Nat.le_refl 0⟩ rfl hl.1 rfl (Nat.le_of_ble_eq_true rfl) dX9_turns_11 (fun H locs hW => ?_)
    refine lv_if_eq (tgt := 32) C.1 C.2.1 dX9_turns_14 (by decide) (fun hc_10 => ?_) (fun hc_10 => ?_)
    · have h := ite_t hc_10 h
      refine lv_ldc C.1 C.2.1 C.2.2.2.1 (C.2.2.2.2.1 _ w_1123) dX9_turns_32 ?_
      exact ret_i h hq rfl hW dX9_turns_34
    · have h := ite_f hc_10 h
      refine lv_aload_n C.1 C.2.1 dX9_turns_17 rfl (lv_at hl 0 rfl) ?_
      refine lv_bipush (v := 16) C.1 C.2.1 dX9_turns_18 rfl ?_
      refine lv_bipush (v := 7) C.1 C.2.1 dX9_turns_20 rfl ?_
      refine lv_iload_n C.1 C.2.1 dX9_turns_22 rfl (lv_at hl 1 rfl) ?_
      refine lv_imul C.1 C.2.1 dX9_turns_23 ?_
      refine lv_iadd C.1 C.2.1 dX9_turns_24 ?_
      refine lv_iload_n C.1 C.2.1 dX9_turns_25 rfl (lv_at hl 2 rfl) ?_
      obtain ⟨r_9, m_8, hc_7, h⟩ := doI_E h
      refine zr_cVI C hW (c_X9_swaps (x1 := (16 + (7 * x1))) (x2 := x2) hc_7 ) k_X9_swaps (zr_recv C hW id_20 zco_20 rfl) w_1173 ⟨Nat.le_of_ble_eq_true rfl, Nat.le_of_ble_eq_true rfl⟩ ⟨Nat.le_refl 0, Nat.le_refl 0⟩ rfl hl.1 rfl (Nat.le_of_ble_eq_true rfl) dX9_turns_26 (fun H locs hW => ?_)
      refine lv_goto (tgt := 34) C.1 C.2.1 dX9_turns_29 (by decide) ?_
      exact ret_i h hq rfl hW dX9_turns_34
theorem c_X9_turns {X : TX} {l : Launch} {fu : Nat} {x1 : Int32} {x2 : Int32} {m mE : Mem} {r : Int32} (h : f_X9_turns fu x1 x2 m = some (r, mE))  : MetI X l yX9_turns cX9_turns 3 .int 2 [.ref (ad X 20 0), .int x1, .int x2] m r mE :=
  met_I (by decide) (Nat.le_of_ble_eq_true rfl) (fun p e s mi args below meth c ls Q C hq hW hl => w_X9_turns C hq h  hW (lv_sub hl [0, 1, 2] rfl))
theorem k_X9_turns : CalV yX9_turns cX9_turns 3 (some .int) RX9 2 := ⟨w_1170, w_1171, w_70, w_1172, by decide +kernel⟩
theorem dX9_set_0 : decode cX9_set 0 = .ok (.aload_n 0, 1) := by decide +kernel
theorem dX9_set_1 : decode cX9_set 1 = .ok (.iload_n 1, 1) := by decide +kernel
theorem dX9_set_2 : decode cX9_set 2 = .ok (.invokevirtual 101, 3) := by decide +kernel
theorem dX9_set_5 : decode cX9_set 5 = .ok (.ifCond .eq 37, 3) := by decide +kernel
theorem dX9_set_8 : decode cX9_set 8 = .ok (.iload_n 2, 1) := by decide +kernel
theorem dX9_set_9 : decode cX9_set 9 = .ok (.iconst 1, 1) := by decide +kernel
theorem dX9_set_10 : decode cX9_set 10 = .ok (.iconst 3, 1) := by decide +kernel
theorem dX9_set_11 : decode cX9_set 11 = .ok (.invokestatic 79, 3) := by decide +kernel
theorem dX9_set_14 : decode cX9_set 14 = .ok (.ifCond .eq 28, 3) := by decide +kernel
theorem dX9_set_17 : decode cX9_set 17 = .ok (.iload_n 2, 1) := by decide +kernel
theorem dX9_set_18 : decode cX9_set 18 = .ok (.iload_n 3, 1) := by decide +kernel
theorem dX9_set_19 : decode cX9_set 19 = .ok (.invokestatic 87, 3) := by decide +kernel
theorem dX9_set_22 : decode cX9_set 22 = .ok (.ifCond .eq 20, 3) := by decide +kernel
theorem dX9_set_25 : decode cX9_set 25 = .ok (.aload_n 0, 1) := by decide +kernel
theorem dX9_set_26 : decode cX9_set 26 = .ok (.bipush 16, 2) := by decide +kernel
theorem dX9_set_28 : decode cX9_set 28 = .ok (.bipush 7, 2) := by decide +kernel
theorem dX9_set_30 : decode cX9_set 30 = .ok (.iload_n 1, 1) := by decide +kernel
theorem dX9_set_31 : decode cX9_set 31 = .ok (.imul, 1) := by decide +kernel
theorem dX9_set_32 : decode cX9_set 32 = .ok (.iadd, 1) := by decide +kernel
theorem dX9_set_33 : decode cX9_set 33 = .ok (.iload_n 2, 1) := by decide +kernel
theorem dX9_set_34 : decode cX9_set 34 = .ok (.iadd, 1) := by decide +kernel
theorem dX9_set_35 : decode cX9_set 35 = .ok (.iload_n 3, 1) := by decide +kernel
theorem dX9_set_36 : decode cX9_set 36 = .ok (.invokevirtual 122, 3) := by decide +kernel
theorem dX9_set_39 : decode cX9_set 39 = .ok (.goto 5, 3) := by decide +kernel
theorem dX9_set_42 : decode cX9_set 42 = .ok (.ldc 91, 2) := by decide +kernel
theorem dX9_set_44 : decode cX9_set 44 = .ok (.ireturn, 1) := by decide +kernel
def f_X9_set (fu : Nat)  (x1 : Int32) (x2 : Int32) (x3 : Int32) (m : Mem) : Option (Int32 × Mem) := doI (f_X9_isVoice fu x1 m) (fun r_3 m_2 => if r_3 = 0 then (some ((-1000000001), m_2)) else (doI (f_X9_in fu x2 1 3 m_2) (fun r_6 m_5 => if r_6 = 0 then (some ((-1000000001), m_5)) else (doI (f_X9_isOf fu x2 x3 m_5) (fun r_9 m_8 => if r_9 = 0 then (some ((-1000000001), m_8)) else (doI (f_X9_swaps fu ((16 + (7 * x1)) + x2) x3 m_8) (fun r_12 m_11 => some (r_12, m_11))))))))
set_option maxHeartbeats 4000000 in
set_option maxRecDepth 100000 in
theorem w_X9_set {X : TX} {p : Program} {l : Launch} {e : Env} {s : State} {mi : MethodId} {args : Array Value} {below : List Frame} {meth : Method} {c : Code} {Q : State → Prop} {r : Int32} {mE : Mem} (C : Cx X p s mi args c RX9 cX9_set 4) (hq : RetI X p l e (rmD 2) s mi args below meth c cX9_set .int Q r mE) {fu : Nat} {x1 : Int32} {x2 : Int32} {x3 : Int32} {m : Mem} {H : Heap} {locs : List Loc} {ls : Array Slot} (h : f_X9_set fu x1 x2 x3 m = some (r, mE))  (hW : Wd X s m H locs) (hl : lv_has ls 4 [(0, .ref (ad X 20 0)), (1, .int x1), (2, .int x2), (3, .int x3)]) : W p l e (rmD 2) s mi args below meth c H locs 0 0 Q (F0 mi 0 ls []) := by
  unfold f_X9_set at h
  refine lv_aload_n C.1 C.2.1 dX9_set_0 rfl (lv_at hl 0 rfl) ?_
  refine lv_iload_n C.1 C.2.1 dX9_set_1 rfl (lv_at hl 1 rfl) ?_
  obtain ⟨r_3, m_2, hc_1, h⟩ := doI_E h
  refine zr_cVI C hW (c_X9_isVoice (x1 := x1) hc_1 ) k_X9_isVoice (zr_recv C hW id_20 zco_20 rfl) w_1137 ⟨Nat.le_of_ble_eq_true rfl, Nat.le_of_ble_eq_true rfl⟩ ⟨Nat.le_refl 0, Nat.le_refl 0⟩ rfl hl.1 rfl (Nat.le_of_ble_eq_true rfl) dX9_set_2 (fun H locs hW => ?_)
  refine lv_if_eq (tgt := 42) C.1 C.2.1 dX9_set_5 (by decide) (fun hc_15 => ?_) (fun hc_15 => ?_)
  · have h := ite_t hc_15 h
    refine lv_ldc C.1 C.2.1 C.2.2.2.1 (C.2.2.2.2.1 _ w_1123) dX9_set_42 ?_
    exact ret_i h hq rfl hW dX9_set_44
  · have h := ite_f hc_15 h
    refine lv_iload_n C.1 C.2.1 dX9_set_8 rfl (lv_at hl 2 rfl) ?_
    refine lv_iconst (v := 1) C.1 C.2.1 dX9_set_9 rfl ?_
    refine lv_iconst (v := 3) C.1 C.2.1 dX9_set_10 rfl ?_
    obtain ⟨r_6, m_5, hc_4, h⟩ := doI_E h
    refine zr_cSI C hW (c_X9_in (x0 := x2) (x1 := 1) (x2 := 3) hc_4 ) k_X9_in w_1117 ⟨Nat.le_of_ble_eq_true rfl, Nat.le_of_ble_eq_true rfl⟩ ⟨Nat.le_refl 0, Nat.le_refl 0⟩ rfl hl.1 rfl (Nat.le_of_ble_eq_true rfl) dX9_set_11 (fun H locs hW => ?_)
    refine lv_if_eq (tgt := 42) C.1 C.2.1 dX9_set_14 (by decide) (fun hc_14 => ?_) (fun hc_14 => ?_)
    · have h := ite_t hc_14 h
      refine lv_ldc C.1 C.2.1 C.2.2.2.1 (C.2.2.2.2.1 _ w_1123) dX9_set_42 ?_
      exact ret_i h hq rfl hW dX9_set_44
    · have h := ite_f hc_14 h
      refine lv_iload_n C.1 C.2.1 dX9_set_17 rfl (lv_at hl 2 rfl) ?_
      refine lv_iload_n C.1 C.2.1 dX9_set_18 rfl (lv_at hl 3 rfl) ?_
      obtain ⟨r_9, m_8, hc_7, h⟩ := doI_E h
      refine zr_cSI C hW (c_X9_isOf (x0 := x2) (x1 := x3) hc_7 ) k_X9_isOf w_1120 ⟨Nat.le_of_ble_eq_true rfl, Nat.le_of_ble_eq_true rfl⟩ ⟨Nat.le_refl 0, Nat.le_refl 0⟩ rfl hl.1 rfl (Nat.le_of_ble_eq_true rfl) dX9_set_19 (fun H locs hW => ?_)
      refine lv_if_eq (tgt := 42) C.1 C.2.1 dX9_set_22 (by decide) (fun hc_13 => ?_) (fun hc_13 => ?_)
      · have h := ite_t hc_13 h
        refine lv_ldc C.1 C.2.1 C.2.2.2.1 (C.2.2.2.2.1 _ w_1123) dX9_set_42 ?_
        exact ret_i h hq rfl hW dX9_set_44
      · have h := ite_f hc_13 h
        refine lv_aload_n C.1 C.2.1 dX9_set_25 rfl (lv_at hl 0 rfl) ?_
        refine lv_bipush (v := 16) C.1 C.2.1 dX9_set_26 rfl ?_
        refine lv_bipush (v := 7) C.1 C.2.1 dX9_set_28 rfl ?_
        refine lv_iload_n C.1 C.2.1 dX9_set_30 rfl (lv_at hl 1 rfl) ?_
        refine lv_imul C.1 C.2.1 dX9_set_31 ?_
        refine lv_iadd C.1 C.2.1 dX9_set_32 ?_
        refine lv_iload_n C.1 C.2.1 dX9_set_33 rfl (lv_at hl 2 rfl) ?_
        refine lv_iadd C.1 C.2.1 dX9_set_34 ?_
        refine lv_iload_n C.1 C.2.1 dX9_set_35 rfl (lv_at hl 3 rfl) ?_
        obtain ⟨r_12, m_11, hc_10, h⟩ := doI_E h
        refine zr_cVI C hW (c_X9_swaps (x1 := ((16 + (7 * x1)) + x2)) (x2 := x3) hc_10 ) k_X9_swaps (zr_recv C hW id_20 zco_20 rfl) w_1173 ⟨Nat.le_of_ble_eq_true rfl, Nat.le_of_ble_eq_true rfl⟩ ⟨Nat.le_refl 0, Nat.le_refl 0⟩ rfl hl.1 rfl (Nat.le_of_ble_eq_true rfl) dX9_set_36 (fun H locs hW => ?_)
        refine lv_goto (tgt := 44) C.1 C.2.1 dX9_set_39 (by decide) ?_
        exact ret_i h hq rfl hW dX9_set_44
theorem c_X9_set {X : TX} {l : Launch} {fu : Nat} {x1 : Int32} {x2 : Int32} {x3 : Int32} {m mE : Mem} {r : Int32} (h : f_X9_set fu x1 x2 x3 m = some (r, mE))  : MetI X l yX9_set cX9_set 4 .int 2 [.ref (ad X 20 0), .int x1, .int x2, .int x3] m r mE :=
  met_I (by decide) (Nat.le_of_ble_eq_true rfl) (fun p e s mi args below meth c ls Q C hq hW hl => w_X9_set C hq h  hW (lv_sub hl [0, 1, 2, 3] rfl))
theorem k_X9_set : CalV yX9_set cX9_set 4 (some .int) RX9 3 := ⟨w_1178, w_1179, w_70, w_1180, by decide +kernel⟩
theorem dX9_speak_0 : decode cX9_speak 0 = .ok (.aload_n 0, 1) := by decide +kernel
theorem dX9_speak_1 : decode cX9_speak 1 = .ok (.iload_n 1, 1) := by decide +kernel
theorem dX9_speak_2 : decode cX9_speak 2 = .ok (.invokevirtual 101, 3) := by decide +kernel
theorem dX9_speak_5 : decode cX9_speak 5 = .ok (.ifCond .eq 13, 3) := by decide +kernel
theorem dX9_speak_8 : decode cX9_speak 8 = .ok (.iload_n 2, 1) := by decide +kernel
theorem dX9_speak_9 : decode cX9_speak 9 = .ok (.iconst 1, 1) := by decide +kernel
theorem dX9_speak_10 : decode cX9_speak 10 = .ok (.bipush 60, 2) := by decide +kernel
theorem dX9_speak_12 : decode cX9_speak 12 = .ok (.invokestatic 79, 3) := by decide +kernel
theorem dX9_speak_15 : decode cX9_speak 15 = .ok (.ifCond .ne 6, 3) := by decide +kernel
theorem dX9_speak_18 : decode cX9_speak 18 = .ok (.ldc 91, 2) := by decide +kernel
theorem dX9_speak_20 : decode cX9_speak 20 = .ok (.ireturn, 1) := by decide +kernel
theorem dX9_speak_21 : decode cX9_speak 21 = .ok (.aload_n 0, 1) := by decide +kernel
theorem dX9_speak_22 : decode cX9_speak 22 = .ok (.iload_n 1, 1) := by decide +kernel
theorem dX9_speak_23 : decode cX9_speak 23 = .ok (.bipush 6, 2) := by decide +kernel
theorem dX9_speak_25 : decode cX9_speak 25 = .ok (.aload_n 0, 1) := by decide +kernel
theorem dX9_speak_26 : decode cX9_speak 26 = .ok (.iload_n 1, 1) := by decide +kernel
theorem dX9_speak_27 : decode cX9_speak 27 = .ok (.bipush 6, 2) := by decide +kernel
theorem dX9_speak_29 : decode cX9_speak 29 = .ok (.invokevirtual 97, 3) := by decide +kernel
theorem dX9_speak_32 : decode cX9_speak 32 = .ok (.iconst 1, 1) := by decide +kernel
theorem dX9_speak_33 : decode cX9_speak 33 = .ok (.iadd, 1) := by decide +kernel
theorem dX9_speak_34 : decode cX9_speak 34 = .ok (.invokevirtual 83, 3) := by decide +kernel
theorem dX9_speak_37 : decode cX9_speak 37 = .ok (.aload_n 0, 1) := by decide +kernel
theorem dX9_speak_38 : decode cX9_speak 38 = .ok (.bipush 16, 2) := by decide +kernel
theorem dX9_speak_40 : decode cX9_speak 40 = .ok (.bipush 7, 2) := by decide +kernel
theorem dX9_speak_42 : decode cX9_speak 42 = .ok (.iload_n 1, 1) := by decide +kernel
theorem dX9_speak_43 : decode cX9_speak 43 = .ok (.imul, 1) := by decide +kernel
theorem dX9_speak_44 : decode cX9_speak 44 = .ok (.iadd, 1) := by decide +kernel
theorem dX9_speak_45 : decode cX9_speak 45 = .ok (.iconst 4, 1) := by decide +kernel
theorem dX9_speak_46 : decode cX9_speak 46 = .ok (.iadd, 1) := by decide +kernel
theorem dX9_speak_47 : decode cX9_speak 47 = .ok (.iload_n 2, 1) := by decide +kernel
theorem dX9_speak_48 : decode cX9_speak 48 = .ok (.invokevirtual 122, 3) := by decide +kernel
theorem dX9_speak_51 : decode cX9_speak 51 = .ok (.ireturn, 1) := by decide +kernel
def f_X9_speak (fu : Nat)  (x1 : Int32) (x2 : Int32) (m : Mem) : Option (Int32 × Mem) := doI (f_X9_isVoice fu x1 m) (fun r_3 m_2 => if r_3 = 0 then (some ((-1000000001), m_2)) else (doI (f_X9_in fu x2 1 60 m_2) (fun r_6 m_5 => if r_6 = 0 then (some ((-1000000001), m_5)) else (doI (f_X9_of fu x1 6 m_5) (fun r_9 m_8 => doV (f_X9_put fu x1 6 (r_9 + 1) m_8) (fun m_11 => doI (f_X9_swaps fu ((16 + (7 * x1)) + 4) x2 m_11) (fun r_14 m_13 => some (r_14, m_13))))))))
set_option maxHeartbeats 4000000 in
set_option maxRecDepth 100000 in
theorem w_X9_speak {X : TX} {p : Program} {l : Launch} {e : Env} {s : State} {mi : MethodId} {args : Array Value} {below : List Frame} {meth : Method} {c : Code} {Q : State → Prop} {r : Int32} {mE : Mem} (C : Cx X p s mi args c RX9 cX9_speak 3) (hq : RetI X p l e (rmD 2) s mi args below meth c cX9_speak .int Q r mE) {fu : Nat} {x1 : Int32} {x2 : Int32} {m : Mem} {H : Heap} {locs : List Loc} {ls : Array Slot} (h : f_X9_speak fu x1 x2 m = some (r, mE))  (hW : Wd X s m H locs) (hl : lv_has ls 3 [(0, .ref (ad X 20 0)), (1, .int x1), (2, .int x2)]) : W p l e (rmD 2) s mi args below meth c H locs 0 0 Q (F0 mi 0 ls []) := by
  unfold f_X9_speak at h
  refine lv_aload_n C.1 C.2.1 dX9_speak_0 rfl (lv_at hl 0 rfl) ?_
  refine lv_iload_n C.1 C.2.1 dX9_speak_1 rfl (lv_at hl 1 rfl) ?_
  obtain ⟨r_3, m_2, hc_1, h⟩ := doI_E h
  refine zr_cVI C hW (c_X9_isVoice (x1 := x1) hc_1 ) k_X9_isVoice (zr_recv C hW id_20 zco_20 rfl) w_1137 ⟨Nat.le_of_ble_eq_true rfl, Nat.le_of_ble_eq_true rfl⟩ ⟨Nat.le_refl 0, Nat.le_refl 0⟩ rfl hl.1 rfl (Nat.le_of_ble_eq_true rfl) dX9_speak_2 (fun H locs hW => ?_)
  refine lv_if_eq (tgt := 18) C.1 C.2.1 dX9_speak_5 (by decide) (fun hc_16 => ?_) (fun hc_16 => ?_)
  · have h := ite_t hc_16 h
    refine lv_ldc C.1 C.2.1 C.2.2.2.1 (C.2.2.2.2.1 _ w_1123) dX9_speak_18 ?_
    exact ret_i h hq rfl hW dX9_speak_20
  · have h := ite_f hc_16 h
    refine lv_iload_n C.1 C.2.1 dX9_speak_8 rfl (lv_at hl 2 rfl) ?_
    refine lv_iconst (v := 1) C.1 C.2.1 dX9_speak_9 rfl ?_
    refine lv_bipush (v := 60) C.1 C.2.1 dX9_speak_10 rfl ?_
    obtain ⟨r_6, m_5, hc_4, h⟩ := doI_E h
    refine zr_cSI C hW (c_X9_in (x0 := x2) (x1 := 1) (x2 := 60) hc_4 ) k_X9_in w_1117 ⟨Nat.le_of_ble_eq_true rfl, Nat.le_of_ble_eq_true rfl⟩ ⟨Nat.le_refl 0, Nat.le_refl 0⟩ rfl hl.1 rfl (Nat.le_of_ble_eq_true rfl) dX9_speak_12 (fun H locs hW => ?_)
    refine lv_if_ne (tgt := 21) C.1 C.2.1 dX9_speak_15 (by decide) (fun hc_15 => ?_) (fun hc_15 => ?_)
    · have h := ite_f hc_15 h
      refine lv_aload_n C.1 C.2.1 dX9_speak_21 rfl (lv_at hl 0 rfl) ?_
      refine lv_iload_n C.1 C.2.1 dX9_speak_22 rfl (lv_at hl 1 rfl) ?_
      refine lv_bipush (v := 6) C.1 C.2.1 dX9_speak_23 rfl ?_
      refine lv_aload_n C.1 C.2.1 dX9_speak_25 rfl (lv_at hl 0 rfl) ?_
      refine lv_iload_n C.1 C.2.1 dX9_speak_26 rfl (lv_at hl 1 rfl) ?_
      refine lv_bipush (v := 6) C.1 C.2.1 dX9_speak_27 rfl ?_
      obtain ⟨r_9, m_8, hc_7, h⟩ := doI_E h
      refine zr_cVI C hW (c_X9_of (x1 := x1) (x2 := 6) hc_7 ) k_X9_of (zr_recv C hW id_20 zco_20 rfl) w_1141 ⟨Nat.le_of_ble_eq_true rfl, Nat.le_of_ble_eq_true rfl⟩ ⟨Nat.le_refl 0, Nat.le_refl 0⟩ rfl hl.1 rfl (Nat.le_of_ble_eq_true rfl) dX9_speak_29 (fun H locs hW => ?_)
      refine lv_iconst (v := 1) C.1 C.2.1 dX9_speak_32 rfl ?_
      refine lv_iadd C.1 C.2.1 dX9_speak_33 ?_
      obtain ⟨m_11, hc_10, h⟩ := doV_E h
      refine zr_cVV C hW (c_X9_put (x1 := x1) (x2 := 6) (x3 := (r_9 + 1)) hc_10 ) k_X9_put (zr_recv C hW id_20 zco_20 rfl) w_1129 ⟨Nat.le_of_ble_eq_true rfl, Nat.le_of_ble_eq_true rfl⟩ ⟨Nat.le_refl 0, Nat.le_refl 0⟩ rfl hl.1 rfl (Nat.le_of_ble_eq_true rfl) dX9_speak_34 (fun H locs hW => ?_)
      refine lv_aload_n C.1 C.2.1 dX9_speak_37 rfl (lv_at hl 0 rfl) ?_
      refine lv_bipush (v := 16) C.1 C.2.1 dX9_speak_38 rfl ?_
      refine lv_bipush (v := 7) C.1 C.2.1 dX9_speak_40 rfl ?_
      refine lv_iload_n C.1 C.2.1 dX9_speak_42 rfl (lv_at hl 1 rfl) ?_
      refine lv_imul C.1 C.2.1 dX9_speak_43 ?_
      refine lv_iadd C.1 C.2.1 dX9_speak_44 ?_
      refine lv_iconst (v := 4) C.1 C.2.1 dX9_speak_45 rfl ?_
      refine lv_iadd C.1 C.2.1 dX9_speak_46 ?_
      refine lv_iload_n C.1 C.2.1 dX9_speak_47 rfl (lv_at hl 2 rfl) ?_
      obtain ⟨r_14, m_13, hc_12, h⟩ := doI_E h
      refine zr_cVI C hW (c_X9_swaps (x1 := ((16 + (7 * x1)) + 4)) (x2 := x2) hc_12 ) k_X9_swaps (zr_recv C hW id_20 zco_20 rfl) w_1173 ⟨Nat.le_of_ble_eq_true rfl, Nat.le_of_ble_eq_true rfl⟩ ⟨Nat.le_refl 0, Nat.le_refl 0⟩ rfl hl.1 rfl (Nat.le_of_ble_eq_true rfl) dX9_speak_48 (fun H locs hW => ?_)
      exact ret_i h hq rfl hW dX9_speak_51
    · have h := ite_t hc_15 h
      refine lv_ldc C.1 C.2.1 C.2.2.2.1 (C.2.2.2.2.1 _ w_1123) dX9_speak_18 ?_
      exact ret_i h hq rfl hW dX9_speak_20
theorem c_X9_speak {X : TX} {l : Launch} {fu : Nat} {x1 : Int32} {x2 : Int32} {m mE : Mem} {r : Int32} (h : f_X9_speak fu x1 x2 m = some (r, mE))  : MetI X l yX9_speak cX9_speak 3 .int 2 [.ref (ad X 20 0), .int x1, .int x2] m r mE :=
  met_I (by decide) (Nat.le_of_ble_eq_true rfl) (fun p e s mi args below meth c ls Q C hq hW hl => w_X9_speak C hq h  hW (lv_sub hl [0, 1, 2] rfl))
theorem k_X9_speak : CalV yX9_speak cX9_speak 3 (some .int) RX9 2 := ⟨w_1182, w_1183, w_70, w_1184, by decide +kernel⟩
theorem dX9_hush_0 : decode cX9_hush 0 = .ok (.aload_n 0, 1) := by decide +kernel
theorem dX9_hush_1 : decode cX9_hush 1 = .ok (.iload_n 1, 1) := by decide +kernel
theorem dX9_hush_2 : decode cX9_hush 2 = .ok (.invokevirtual 101, 3) := by decide +kernel
theorem dX9_hush_5 : decode cX9_hush 5 = .ok (.ifCond .ne 6, 3) := by decide +kernel
theorem dX9_hush_8 : decode cX9_hush 8 = .ok (.ldc 91, 2) := by decide +kernel
theorem dX9_hush_10 : decode cX9_hush 10 = .ok (.ireturn, 1) := by decide +kernel
theorem dX9_hush_11 : decode cX9_hush 11 = .ok (.aload_n 0, 1) := by decide +kernel
theorem dX9_hush_12 : decode cX9_hush 12 = .ok (.bipush 16, 2) := by decide +kernel
theorem dX9_hush_14 : decode cX9_hush 14 = .ok (.bipush 7, 2) := by decide +kernel
theorem dX9_hush_16 : decode cX9_hush 16 = .ok (.iload_n 1, 1) := by decide +kernel
theorem dX9_hush_17 : decode cX9_hush 17 = .ok (.imul, 1) := by decide +kernel
theorem dX9_hush_18 : decode cX9_hush 18 = .ok (.iadd, 1) := by decide +kernel
theorem dX9_hush_19 : decode cX9_hush 19 = .ok (.iconst 4, 1) := by decide +kernel
theorem dX9_hush_20 : decode cX9_hush 20 = .ok (.iadd, 1) := by decide +kernel
theorem dX9_hush_21 : decode cX9_hush 21 = .ok (.iconst 0, 1) := by decide +kernel
theorem dX9_hush_22 : decode cX9_hush 22 = .ok (.invokevirtual 122, 3) := by decide +kernel
theorem dX9_hush_25 : decode cX9_hush 25 = .ok (.istore_n 2, 1) := by decide +kernel
theorem dX9_hush_26 : decode cX9_hush 26 = .ok (.aload_n 0, 1) := by decide +kernel
theorem dX9_hush_27 : decode cX9_hush 27 = .ok (.getfield 9, 3) := by decide +kernel
theorem dX9_hush_30 : decode cX9_hush 30 = .ok (.bipush 14, 2) := by decide +kernel
theorem dX9_hush_32 : decode cX9_hush 32 = .ok (.iload_n 2, 1) := by decide +kernel
theorem dX9_hush_33 : decode cX9_hush 33 = .ok (.ifCond .le 7, 3) := by decide +kernel
theorem dX9_hush_36 : decode cX9_hush 36 = .ok (.iload_n 1, 1) := by decide +kernel
theorem dX9_hush_37 : decode cX9_hush 37 = .ok (.goto 10, 3) := by decide +kernel
theorem dX9_hush_40 : decode cX9_hush 40 = .ok (.aload_n 0, 1) := by decide +kernel
theorem dX9_hush_41 : decode cX9_hush 41 = .ok (.getfield 9, 3) := by decide +kernel
theorem dX9_hush_44 : decode cX9_hush 44 = .ok (.bipush 14, 2) := by decide +kernel
theorem dX9_hush_46 : decode cX9_hush 46 = .ok (.iaload, 1) := by decide +kernel
theorem dX9_hush_47 : decode cX9_hush 47 = .ok (.iastore, 1) := by decide +kernel
theorem dX9_hush_48 : decode cX9_hush 48 = .ok (.iload_n 2, 1) := by decide +kernel
theorem dX9_hush_49 : decode cX9_hush 49 = .ok (.ireturn, 1) := by decide +kernel
def f_X9_hush_47 (fu : Nat)  (x2 : Int32) (y2 : Int32) (m : Mem) : Option (Int32 × Mem) := seqM (upd m ((4000 + 1500 * 0) + (14 : Int32).toNatClampNeg) y2) (fun m_1 : Mem => some (x2, m_1))
set_option maxHeartbeats 4000000 in
set_option maxRecDepth 100000 in
theorem w_X9_hush_47 {X : TX} {p : Program} {l : Launch} {e : Env} {s : State} {mi : MethodId} {args : Array Value} {below : List Frame} {meth : Method} {c : Code} {Q : State → Prop} {r : Int32} {mE : Mem} (C : Cx X p s mi args c RX9 cX9_hush 3) (hq : RetI X p l e (rmD 2) s mi args below meth c cX9_hush .int Q r mE) {fu : Nat} {x2 : Int32} {y2 : Int32} {m : Mem} {H : Heap} {locs : List Loc} {ls : Array Slot} (h : f_X9_hush_47 fu x2 y2 m = some (r, mE))  (hW : Wd X s m H locs) (hl : lv_has ls 3 [(2, .int x2)]) : W p l e (rmD 2) s mi args below meth c H locs 0 0 Q (F0 mi 47 ls [.int y2, .int 14, .ref (ad X 21 0)]) := by
  unfold f_X9_hush_47 at h
  obtain ⟨m_1, e_2, h⟩ := seqM_E h
  refine zas_21 C hW id_21_0 (inb_E (by decide)) e_2 dX9_hush_47 (fun H locs hW => ?_)
  refine lv_iload_n C.1 C.2.1 dX9_hush_48 rfl (lv_at hl 0 rfl) ?_
  exact ret_i h hq rfl hW dX9_hush_49
def f_X9_hush (fu : Nat)  (x1 : Int32) (m : Mem) : Option (Int32 × Mem) := doI (f_X9_isVoice fu x1 m) (fun r_3 m_2 => if r_3 = 0 then (some ((-1000000001), m_2)) else (doI (f_X9_swaps fu ((16 + (7 * x1)) + 4) 0 m_2) (fun r_6 m_5 => if r_6 ≤ 0 then (f_X9_hush_47 fu r_6 (m_5 ((4000 + 1500 * 0) + (14 : Int32).toNatClampNeg)) m_5) else (f_X9_hush_47 fu r_6 x1 m_5))))
set_option maxHeartbeats 4000000 in
set_option maxRecDepth 100000 in
theorem w_X9_hush {X : TX} {p : Program} {l : Launch} {e : Env} {s : State} {mi : MethodId} {args : Array Value} {below : List Frame} {meth : Method} {c : Code} {Q : State → Prop} {r : Int32} {mE : Mem} (C : Cx X p s mi args c RX9 cX9_hush 3) (hq : RetI X p l e (rmD 2) s mi args below meth c cX9_hush .int Q r mE) {fu : Nat} {x1 : Int32} {m : Mem} {H : Heap} {locs : List Loc} {ls : Array Slot} (h : f_X9_hush fu x1 m = some (r, mE))  (hW : Wd X s m H locs) (hl : lv_has ls 3 [(0, .ref (ad X 20 0)), (1, .int x1)]) : W p l e (rmD 2) s mi args below meth c H locs 0 0 Q (F0 mi 0 ls []) := by
  unfold f_X9_hush at h
  refine lv_aload_n C.1 C.2.1 dX9_hush_0 rfl (lv_at hl 0 rfl) ?_
  refine lv_iload_n C.1 C.2.1 dX9_hush_1 rfl (lv_at hl 1 rfl) ?_
  obtain ⟨r_3, m_2, hc_1, h⟩ := doI_E h
  refine zr_cVI C hW (c_X9_isVoice (x1 := x1) hc_1 ) k_X9_isVoice (zr_recv C hW id_20 zco_20 rfl) w_1137 ⟨Nat.le_of_ble_eq_true rfl, Nat.le_of_ble_eq_true rfl⟩ ⟨Nat.le_refl 0, Nat.le_refl 0⟩ rfl hl.1 rfl (Nat.le_of_ble_eq_true rfl) dX9_hush_2 (fun H locs hW => ?_)
  refine lv_if_ne (tgt := 11) C.1 C.2.1 dX9_hush_5 (by decide) (fun hc_8 => ?_) (fun hc_8 => ?_)
  · have h := ite_f hc_8 h
    refine lv_aload_n C.1 C.2.1 dX9_hush_11 rfl (lv_at hl 0 rfl) ?_
    refine lv_bipush (v := 16) C.1 C.2.1 dX9_hush_12 rfl ?_
    refine lv_bipush (v := 7) C.1 C.2.1 dX9_hush_14 rfl ?_
    refine lv_iload_n C.1 C.2.1 dX9_hush_16 rfl (lv_at hl 1 rfl) ?_
    refine lv_imul C.1 C.2.1 dX9_hush_17 ?_
    refine lv_iadd C.1 C.2.1 dX9_hush_18 ?_
    refine lv_iconst (v := 4) C.1 C.2.1 dX9_hush_19 rfl ?_
    refine lv_iadd C.1 C.2.1 dX9_hush_20 ?_
    refine lv_iconst (v := 0) C.1 C.2.1 dX9_hush_21 rfl ?_
    obtain ⟨r_6, m_5, hc_4, h⟩ := doI_E h
    refine zr_cVI C hW (c_X9_swaps (x1 := ((16 + (7 * x1)) + 4)) (x2 := 0) hc_4 ) k_X9_swaps (zr_recv C hW id_20 zco_20 rfl) w_1173 ⟨Nat.le_of_ble_eq_true rfl, Nat.le_of_ble_eq_true rfl⟩ ⟨Nat.le_refl 0, Nat.le_refl 0⟩ rfl hl.1 rfl (Nat.le_of_ble_eq_true rfl) dX9_hush_22 (fun H locs hW => ?_)
    refine lv_istore_n (lv' := [(2, .int r_6), (0, .ref (ad X 20 0)), (1, .int x1)]) C.1 C.2.1 dX9_hush_25 rfl hl (by decide) rfl (fun ls hl => ?_)
    refine lv_aload_n C.1 C.2.1 dX9_hush_26 rfl (lv_at hl 1 rfl) ?_
    refine zg_X9_now C hW id_20 w_1004 dX9_hush_27 ?_
    refine lv_bipush (v := 14) C.1 C.2.1 dX9_hush_30 rfl ?_
    refine lv_iload_n C.1 C.2.1 dX9_hush_32 rfl (lv_at hl 0 rfl) ?_
    refine lv_if_le (tgt := 40) C.1 C.2.1 dX9_hush_33 (by decide) (fun hc_7 => ?_) (fun hc_7 => ?_)
    · have h := ite_t hc_7 h
      refine lv_aload_n C.1 C.2.1 dX9_hush_40 rfl (lv_at hl 1 rfl) ?_
      refine zg_X9_now C hW id_20 w_1004 dX9_hush_41 ?_
      refine lv_bipush (v := 14) C.1 C.2.1 dX9_hush_44 rfl ?_
      refine zal_21 C hW id_21_0 (inb_E (by decide)) dX9_hush_46 ?_
      exact w_X9_hush_47 C hq  h  hW (lv_sub hl [0] rfl)
    · have h := ite_f hc_7 h
      refine lv_iload_n C.1 C.2.1 dX9_hush_36 rfl (lv_at hl 2 rfl) ?_
      refine lv_goto (tgt := 47) C.1 C.2.1 dX9_hush_37 (by decide) ?_
      exact w_X9_hush_47 C hq  h  hW (lv_sub hl [0] rfl)
  · have h := ite_t hc_8 h
    refine lv_ldc C.1 C.2.1 C.2.2.2.1 (C.2.2.2.2.1 _ w_1123) dX9_hush_8 ?_
    exact ret_i h hq rfl hW dX9_hush_10
theorem c_X9_hush {X : TX} {l : Launch} {fu : Nat} {x1 : Int32} {m mE : Mem} {r : Int32} (h : f_X9_hush fu x1 m = some (r, mE))  : MetI X l yX9_hush cX9_hush 3 .int 2 [.ref (ad X 20 0), .int x1] m r mE :=
  met_I (by decide) (Nat.le_of_ble_eq_true rfl) (fun p e s mi args below meth c ls Q C hq hW hl => w_X9_hush C hq h  hW (lv_sub hl [0, 1] rfl))
theorem k_X9_hush : CalV yX9_hush cX9_hush 3 (some .int) RX9 1 := ⟨w_1186, w_1187, w_70, w_1188, by decide +kernel⟩
theorem dX9_air_0 : decode cX9_air 0 = .ok (.iload_n 1, 1) := by decide +kernel
theorem dX9_air_1 : decode cX9_air 1 = .ok (.iconst 0, 1) := by decide +kernel
theorem dX9_air_2 : decode cX9_air 2 = .ok (.iconst 2, 1) := by decide +kernel
theorem dX9_air_3 : decode cX9_air 3 = .ok (.invokestatic 79, 3) := by decide +kernel
theorem dX9_air_6 : decode cX9_air 6 = .ok (.ifCond .eq 24, 3) := by decide +kernel
theorem dX9_air_9 : decode cX9_air 9 = .ok (.iload_n 2, 1) := by decide +kernel
theorem dX9_air_10 : decode cX9_air 10 = .ok (.iconst 0, 1) := by decide +kernel
theorem dX9_air_11 : decode cX9_air 11 = .ok (.iload_n 1, 1) := by decide +kernel
theorem dX9_air_12 : decode cX9_air 12 = .ok (.ifCond .ne 9, 3) := by decide +kernel
theorem dX9_air_15 : decode cX9_air 15 = .ok (.sipush 9999, 3) := by decide +kernel
theorem dX9_air_18 : decode cX9_air 18 = .ok (.goto 6, 3) := by decide +kernel
theorem dX9_air_21 : decode cX9_air 21 = .ok (.sipush 200, 3) := by decide +kernel
theorem dX9_air_24 : decode cX9_air 24 = .ok (.invokestatic 79, 3) := by decide +kernel
theorem dX9_air_27 : decode cX9_air 27 = .ok (.ifCond .ne 6, 3) := by decide +kernel
theorem dX9_air_30 : decode cX9_air 30 = .ok (.ldc 91, 2) := by decide +kernel
theorem dX9_air_32 : decode cX9_air 32 = .ok (.ireturn, 1) := by decide +kernel
theorem dX9_air_33 : decode cX9_air 33 = .ok (.aload_n 0, 1) := by decide +kernel
theorem dX9_air_34 : decode cX9_air 34 = .ok (.iload_n 1, 1) := by decide +kernel
theorem dX9_air_35 : decode cX9_air 35 = .ok (.ifCond .ne 7, 3) := by decide +kernel
theorem dX9_air_38 : decode cX9_air 38 = .ok (.iconst 5, 1) := by decide +kernel
theorem dX9_air_39 : decode cX9_air 39 = .ok (.goto 13, 3) := by decide +kernel
theorem dX9_air_42 : decode cX9_air 42 = .ok (.iload_n 1, 1) := by decide +kernel
theorem dX9_air_43 : decode cX9_air 43 = .ok (.iconst 1, 1) := by decide +kernel
theorem dX9_air_44 : decode cX9_air 44 = .ok (.if_icmp .ne 7, 3) := by decide +kernel
theorem dX9_air_47 : decode cX9_air 47 = .ok (.iconst 3, 1) := by decide +kernel
theorem dX9_air_48 : decode cX9_air 48 = .ok (.goto 4, 3) := by decide +kernel
theorem dX9_air_51 : decode cX9_air 51 = .ok (.iconst 4, 1) := by decide +kernel
theorem dX9_air_52 : decode cX9_air 52 = .ok (.iload_n 2, 1) := by decide +kernel
theorem dX9_air_53 : decode cX9_air 53 = .ok (.invokevirtual 122, 3) := by decide +kernel
theorem dX9_air_56 : decode cX9_air 56 = .ok (.ireturn, 1) := by decide +kernel
def f_X9_air_52 (fu : Nat)  (x2 : Int32) (y1 : Int32) (m : Mem) : Option (Int32 × Mem) := doI (f_X9_swaps fu y1 x2 m) (fun r_3 m_2 => some (r_3, m_2))
set_option maxHeartbeats 4000000 in
set_option maxRecDepth 100000 in
theorem w_X9_air_52 {X : TX} {p : Program} {l : Launch} {e : Env} {s : State} {mi : MethodId} {args : Array Value} {below : List Frame} {meth : Method} {c : Code} {Q : State → Prop} {r : Int32} {mE : Mem} (C : Cx X p s mi args c RX9 cX9_air 3) (hq : RetI X p l e (rmD 1) s mi args below meth c cX9_air .int Q r mE) {fu : Nat} {x2 : Int32} {y1 : Int32} {m : Mem} {H : Heap} {locs : List Loc} {ls : Array Slot} (h : f_X9_air_52 fu x2 y1 m = some (r, mE))  (hW : Wd X s m H locs) (hl : lv_has ls 3 [(2, .int x2)]) : W p l e (rmD 1) s mi args below meth c H locs 0 0 Q (F0 mi 52 ls [.int y1, .ref (ad X 20 0)]) := by
  unfold f_X9_air_52 at h
  refine lv_iload_n C.1 C.2.1 dX9_air_52 rfl (lv_at hl 0 rfl) ?_
  obtain ⟨r_3, m_2, hc_1, h⟩ := doI_E h
  refine zr_cVI C hW (c_X9_swaps (x1 := y1) (x2 := x2) hc_1 ) k_X9_swaps (zr_recv C hW id_20 zco_20 rfl) w_1173 ⟨Nat.le_of_ble_eq_true rfl, Nat.le_of_ble_eq_true rfl⟩ ⟨Nat.le_refl 0, Nat.le_refl 0⟩ rfl hl.1 rfl (Nat.le_of_ble_eq_true rfl) dX9_air_53 (fun H locs hW => ?_)
  exact ret_i h hq rfl hW dX9_air_56
def f_X9_air_24 (fu : Nat)  (x1 : Int32) (x2 : Int32) (y0 : Int32) (y2 : Int32) (m : Mem) : Option (Int32 × Mem) := doI (f_X9_in fu y0 0 y2 m) (fun r_3 m_2 => if r_3 = 0 then (some ((-1000000001), m_2)) else (if x1 = 0 then (f_X9_air_52 fu x2 5 m_2) else (if x1 = 1 then (f_X9_air_52 fu x2 3 m_2) else (f_X9_air_52 fu x2 4 m_2))))
set_option maxHeartbeats 4000000 in
set_option maxRecDepth 100000 in
theorem w_X9_air_24 {X : TX} {p : Program} {l : Launch} {e : Env} {s : State} {mi : MethodId} {args : Array Value} {below : List Frame} {meth : Method} {c : Code} {Q : State → Prop} {r : Int32} {mE : Mem} (C : Cx X p s mi args c RX9 cX9_air 3) (hq : RetI X p l e (rmD 1) s mi args below meth c cX9_air .int Q r mE) {fu : Nat} {x1 : Int32} {x2 : Int32} {y0 : Int32} {y2 : Int32} {m : Mem} {H : Heap} {locs : List Loc} {ls : Array Slot} (h : f_X9_air_24 fu x1 x2 y0 y2 m = some (r, mE))  (hW : Wd X s m H locs) (hl : lv_has ls 3 [(0, .ref (ad X 20 0)), (1, .int x1), (2, .int x2)]) : W p l e (rmD 1) s mi args below meth c H locs 0 0 Q (F0 mi 24 ls [.int y2, .int 0, .int y0]) := by
  unfold f_X9_air_24 at h
  obtain ⟨r_3, m_2, hc_1, h⟩ := doI_E h
  refine zr_cSI C hW (c_X9_in (x0 := y0) (x1 := 0) (x2 := y2) hc_1 ) k_X9_in w_1117 ⟨Nat.le_of_ble_eq_true rfl, Nat.le_of_ble_eq_true rfl⟩ ⟨Nat.le_refl 0, Nat.le_refl 0⟩ rfl hl.1 rfl (Nat.le_of_ble_eq_true rfl) dX9_air_24 (fun H locs hW => ?_)
  refine lv_if_ne (tgt := 33) C.1 C.2.1 dX9_air_27 (by decide) (fun hc_6 => ?_) (fun hc_6 => ?_)
  · have h := ite_f hc_6 h
    refine lv_aload_n C.1 C.2.1 dX9_air_33 rfl (lv_at hl 0 rfl) ?_
    refine lv_iload_n C.1 C.2.1 dX9_air_34 rfl (lv_at hl 1 rfl) ?_
    refine lv_if_ne (tgt := 42) C.1 C.2.1 dX9_air_35 (by decide) (fun hc_5 => ?_) (fun hc_5 => ?_)
    · have h := ite_f hc_5 h
      refine lv_iload_n C.1 C.2.1 dX9_air_42 rfl (lv_at hl 1 rfl) ?_
      refine lv_iconst (v := 1) C.1 C.2.1 dX9_air_43 rfl ?_
      refine lv_icmp_ne (tgt := 51) C.1 C.2.1 dX9_air_44 (by decide) (fun hc_4 => ?_) (fun hc_4 => ?_)
      · have h := ite_f hc_4 h
        refine lv_iconst (v := 4) C.1 C.2.1 dX9_air_51 rfl ?_
        exact w_X9_air_52 C hq  h  hW (lv_sub hl [2] rfl)
      · have h := ite_t hc_4 h
        refine lv_iconst (v := 3) C.1 C.2.1 dX9_air_47 rfl ?_
        refine lv_goto (tgt := 52) C.1 C.2.1 dX9_air_48 (by decide) ?_
        exact w_X9_air_52 C hq  h  hW (lv_sub hl [2] rfl)
    · have h := ite_t hc_5 h
      refine lv_iconst (v := 5) C.1 C.2.1 dX9_air_38 rfl ?_
      refine lv_goto (tgt := 52) C.1 C.2.1 dX9_air_39 (by decide) ?_
      exact w_X9_air_52 C hq  h  hW (lv_sub hl [2] rfl)
  · have h := ite_t hc_6 h
    refine lv_ldc C.1 C.2.1 C.2.2.2.1 (C.2.2.2.2.1 _ w_1123) dX9_air_30 ?_
    exact ret_i h hq rfl hW dX9_air_32
def f_X9_air (fu : Nat)  (x1 : Int32) (x2 : Int32) (m : Mem) : Option (Int32 × Mem) := doI (f_X9_in fu x1 0 2 m) (fun r_3 m_2 => if r_3 = 0 then (some ((-1000000001), m_2)) else (if x1 = 0 then (f_X9_air_24 fu x1 x2 x2 9999 m_2) else (f_X9_air_24 fu x1 x2 x2 200 m_2)))
set_option maxHeartbeats 4000000 in
set_option maxRecDepth 100000 in
theorem w_X9_air {X : TX} {p : Program} {l : Launch} {e : Env} {s : State} {mi : MethodId} {args : Array Value} {below : List Frame} {meth : Method} {c : Code} {Q : State → Prop} {r : Int32} {mE : Mem} (C : Cx X p s mi args c RX9 cX9_air 3) (hq : RetI X p l e (rmD 1) s mi args below meth c cX9_air .int Q r mE) {fu : Nat} {x1 : Int32} {x2 : Int32} {m : Mem} {H : Heap} {locs : List Loc} {ls : Array Slot} (h : f_X9_air fu x1 x2 m = some (r, mE))  (hW : Wd X s m H locs) (hl : lv_has ls 3 [(0, .ref (ad X 20 0)), (1, .int x1), (2, .int x2)]) : W p l e (rmD 1) s mi args below meth c H locs 0 0 Q (F0 mi 0 ls []) := by
  unfold f_X9_air at h
  refine lv_iload_n C.1 C.2.1 dX9_air_0 rfl (lv_at hl 1 rfl) ?_
  refine lv_iconst (v := 0) C.1 C.2.1 dX9_air_1 rfl ?_
  refine lv_iconst (v := 2) C.1 C.2.1 dX9_air_2 rfl ?_
  obtain ⟨r_3, m_2, hc_1, h⟩ := doI_E h
  refine zr_cSI C hW (c_X9_in (x0 := x1) (x1 := 0) (x2 := 2) hc_1 ) k_X9_in w_1117 ⟨Nat.le_of_ble_eq_true rfl, Nat.le_of_ble_eq_true rfl⟩ ⟨Nat.le_refl 0, Nat.le_refl 0⟩ rfl hl.1 rfl (Nat.le_of_ble_eq_true rfl) dX9_air_3 (fun H locs hW => ?_)
  refine lv_if_eq (tgt := 30) C.1 C.2.1 dX9_air_6 (by decide) (fun hc_5 => ?_) (fun hc_5 => ?_)
  · have h := ite_t hc_5 h
    refine lv_ldc C.1 C.2.1 C.2.2.2.1 (C.2.2.2.2.1 _ w_1123) dX9_air_30 ?_
    exact ret_i h hq rfl hW dX9_air_32
  · have h := ite_f hc_5 h
    refine lv_iload_n C.1 C.2.1 dX9_air_9 rfl (lv_at hl 2 rfl) ?_
    refine lv_iconst (v := 0) C.1 C.2.1 dX9_air_10 rfl ?_
    refine lv_iload_n C.1 C.2.1 dX9_air_11 rfl (lv_at hl 1 rfl) ?_
    refine lv_if_ne (tgt := 21) C.1 C.2.1 dX9_air_12 (by decide) (fun hc_4 => ?_) (fun hc_4 => ?_)
    · have h := ite_f hc_4 h
      refine lv_sipush (v := 200) C.1 C.2.1 dX9_air_21 rfl ?_
      exact w_X9_air_24 C hq  h  hW (lv_sub hl [0, 1, 2] rfl)
    · have h := ite_t hc_4 h
      refine lv_sipush (v := 9999) C.1 C.2.1 dX9_air_15 rfl ?_
      refine lv_goto (tgt := 24) C.1 C.2.1 dX9_air_18 (by decide) ?_
      exact w_X9_air_24 C hq  h  hW (lv_sub hl [0, 1, 2] rfl)
theorem c_X9_air {X : TX} {l : Launch} {fu : Nat} {x1 : Int32} {x2 : Int32} {m mE : Mem} {r : Int32} (h : f_X9_air fu x1 x2 m = some (r, mE))  : MetI X l yX9_air cX9_air 3 .int 1 [.ref (ad X 20 0), .int x1, .int x2] m r mE :=
  met_I (by decide) (Nat.le_of_ble_eq_true rfl) (fun p e s mi args below meth c ls Q C hq hW hl => w_X9_air C hq h  hW (lv_sub hl [0, 1, 2] rfl))
theorem k_X9_air : CalV yX9_air cX9_air 3 (some .int) RX9 2 := ⟨w_1190, w_1191, w_70, w_1192, by decide +kernel⟩
theorem dX9_draw_0 : decode cX9_draw 0 = .ok (.aload_n 0, 1) := by decide +kernel
theorem dX9_draw_1 : decode cX9_draw 1 = .ok (.getfield 9, 3) := by decide +kernel
theorem dX9_draw_4 : decode cX9_draw 4 = .ok (.iconst 0, 1) := by decide +kernel
theorem dX9_draw_5 : decode cX9_draw 5 = .ok (.aload_n 0, 1) := by decide +kernel
theorem dX9_draw_6 : decode cX9_draw 6 = .ok (.getfield 9, 3) := by decide +kernel
theorem dX9_draw_9 : decode cX9_draw 9 = .ok (.iconst 0, 1) := by decide +kernel
theorem dX9_draw_10 : decode cX9_draw 10 = .ok (.iaload, 1) := by decide +kernel
theorem dX9_draw_11 : decode cX9_draw 11 = .ok (.ldc 125, 2) := by decide +kernel
theorem dX9_draw_13 : decode cX9_draw 13 = .ok (.imul, 1) := by decide +kernel
theorem dX9_draw_14 : decode cX9_draw 14 = .ok (.sipush 12345, 3) := by decide +kernel
theorem dX9_draw_17 : decode cX9_draw 17 = .ok (.iadd, 1) := by decide +kernel
theorem dX9_draw_18 : decode cX9_draw 18 = .ok (.iastore, 1) := by decide +kernel
theorem dX9_draw_19 : decode cX9_draw 19 = .ok (.aload_n 0, 1) := by decide +kernel
theorem dX9_draw_20 : decode cX9_draw 20 = .ok (.getfield 9, 3) := by decide +kernel
theorem dX9_draw_23 : decode cX9_draw 23 = .ok (.iconst 0, 1) := by decide +kernel
theorem dX9_draw_24 : decode cX9_draw 24 = .ok (.iaload, 1) := by decide +kernel
theorem dX9_draw_25 : decode cX9_draw 25 = .ok (.bipush 8, 2) := by decide +kernel
theorem dX9_draw_27 : decode cX9_draw 27 = .ok (.iushr, 1) := by decide +kernel
theorem dX9_draw_28 : decode cX9_draw 28 = .ok (.ireturn, 1) := by decide +kernel
def f_X9_draw (fu : Nat)   (m : Mem) : Option (Int32 × Mem) := seqM (upd m ((4000 + 1500 * 0) + (0 : Int32).toNatClampNeg) (((m ((4000 + 1500 * 0) + (0 : Int32).toNatClampNeg)) * 1103515245) + 12345)) (fun m_1 : Mem => some ((ushr (m_1 ((4000 + 1500 * 0) + (0 : Int32).toNatClampNeg)) 8), m_1))
set_option maxHeartbeats 4000000 in
set_option maxRecDepth 100000 in
theorem w_X9_draw {X : TX} {p : Program} {l : Launch} {e : Env} {s : State} {mi : MethodId} {args : Array Value} {below : List Frame} {meth : Method} {c : Code} {Q : State → Prop} {r : Int32} {mE : Mem} (C : Cx X p s mi args c RX9 cX9_draw 1) (hq : RetI X p l e (rmD 0) s mi args below meth c cX9_draw .int Q r mE) {fu : Nat}  {m : Mem} {H : Heap} {locs : List Loc} {ls : Array Slot} (h : f_X9_draw fu  m = some (r, mE))  (hW : Wd X s m H locs) (hl : lv_has ls 1 [(0, .ref (ad X 20 0))]) : W p l e (rmD 0) s mi args below meth c H locs 0 0 Q (F0 mi 0 ls []) := by
  unfold f_X9_draw at h
  refine lv_aload_n C.1 C.2.1 dX9_draw_0 rfl (lv_at hl 0 rfl) ?_
  refine zg_X9_now C hW id_20 w_1004 dX9_draw_1 ?_
  refine lv_iconst (v := 0) C.1 C.2.1 dX9_draw_4 rfl ?_
  refine lv_aload_n C.1 C.2.1 dX9_draw_5 rfl (lv_at hl 0 rfl) ?_
  refine zg_X9_now C hW id_20 w_1004 dX9_draw_6 ?_
  refine lv_iconst (v := 0) C.1 C.2.1 dX9_draw_9 rfl ?_
  refine zal_21 C hW id_21_0 (inb_E (by decide)) dX9_draw_10 ?_
  refine lv_ldc C.1 C.2.1 C.2.2.2.1 (C.2.2.2.2.1 _ w_1201) dX9_draw_11 ?_
  refine lv_imul C.1 C.2.1 dX9_draw_13 ?_
  refine lv_sipush (v := 12345) C.1 C.2.1 dX9_draw_14 rfl ?_
  refine lv_iadd C.1 C.2.1 dX9_draw_17 ?_
  obtain ⟨m_1, e_2, h⟩ := seqM_E h
  refine zas_21 C hW id_21_0 (inb_E (by decide)) e_2 dX9_draw_18 (fun H locs hW => ?_)
  refine lv_aload_n C.1 C.2.1 dX9_draw_19 rfl (lv_at hl 0 rfl) ?_
  refine zg_X9_now C hW id_20 w_1004 dX9_draw_20 ?_
  refine lv_iconst (v := 0) C.1 C.2.1 dX9_draw_23 rfl ?_
  refine zal_21 C hW id_21_0 (inb_E (by decide)) dX9_draw_24 ?_
  refine lv_bipush (v := 8) C.1 C.2.1 dX9_draw_25 rfl ?_
  refine lv_iushr (v := (ushr (m_1 ((4000 + 1500 * 0) + (0 : Int32).toNatClampNeg)) 8)) C.1 C.2.1 dX9_draw_27 rfl ?_
  exact ret_i h hq rfl hW dX9_draw_28
theorem c_X9_draw {X : TX} {l : Launch} {fu : Nat}  {m mE : Mem} {r : Int32} (h : f_X9_draw fu  m = some (r, mE))  : MetI X l yX9_draw cX9_draw 1 .int 0 [.ref (ad X 20 0)] m r mE :=
  met_I (by decide) (Nat.le_of_ble_eq_true rfl) (fun p e s mi args below meth c ls Q C hq hW hl => w_X9_draw C hq h  hW (lv_sub hl [0] rfl))
theorem k_X9_draw : CalV yX9_draw cX9_draw 1 (some .int) RX9 0 := ⟨w_1199, w_34, w_70, w_1200, by decide +kernel⟩
theorem dX9_deal_0 : decode cX9_deal 0 = .ok (.iload_n 1, 1) := by decide +kernel
theorem dX9_deal_1 : decode cX9_deal 1 = .ok (.iconst 1, 1) := by decide +kernel
theorem dX9_deal_2 : decode cX9_deal 2 = .ok (.iconst 5, 1) := by decide +kernel
theorem dX9_deal_3 : decode cX9_deal 3 = .ok (.invokestatic 79, 3) := by decide +kernel
theorem dX9_deal_6 : decode cX9_deal 6 = .ok (.ifCond .ne 6, 3) := by decide +kernel
theorem dX9_deal_9 : decode cX9_deal 9 = .ok (.ldc 91, 2) := by decide +kernel
theorem dX9_deal_11 : decode cX9_deal 11 = .ok (.ireturn, 1) := by decide +kernel
theorem dX9_deal_12 : decode cX9_deal 12 = .ok (.iconst 0, 1) := by decide +kernel
theorem dX9_deal_13 : decode cX9_deal 13 = .ok (.istore_n 2, 1) := by decide +kernel
theorem dX9_deal_14 : decode cX9_deal 14 = .ok (.iload_n 2, 1) := by decide +kernel
theorem dX9_deal_15 : decode cX9_deal 15 = .ok (.iload_n 1, 1) := by decide +kernel
theorem dX9_deal_16 : decode cX9_deal 16 = .ok (.if_icmp .ge 56, 3) := by decide +kernel
theorem dX9_deal_19 : decode cX9_deal 19 = .ok (.aload_n 0, 1) := by decide +kernel
theorem dX9_deal_20 : decode cX9_deal 20 = .ok (.getfield 9, 3) := by decide +kernel
theorem dX9_deal_23 : decode cX9_deal 23 = .ok (.iconst 1, 1) := by decide +kernel
theorem dX9_deal_24 : decode cX9_deal 24 = .ok (.iaload, 1) := by decide +kernel
theorem dX9_deal_25 : decode cX9_deal 25 = .ok (.iconst 5, 1) := by decide +kernel
theorem dX9_deal_26 : decode cX9_deal 26 = .ok (.if_icmp .ge 46, 3) := by decide +kernel
theorem dX9_deal_29 : decode cX9_deal 29 = .ok (.aload_n 0, 1) := by decide +kernel
theorem dX9_deal_30 : decode cX9_deal 30 = .ok (.invokevirtual 126, 3) := by decide +kernel
theorem dX9_deal_33 : decode cX9_deal 33 = .ok (.bipush 6, 2) := by decide +kernel
theorem dX9_deal_35 : decode cX9_deal 35 = .ok (.irem, 1) := by decide +kernel
theorem dX9_deal_36 : decode cX9_deal 36 = .ok (.istore_n 3, 1) := by decide +kernel
theorem dX9_deal_37 : decode cX9_deal 37 = .ok (.iconst 1, 1) := by decide +kernel
theorem dX9_deal_38 : decode cX9_deal 38 = .ok (.aload_n 0, 1) := by decide +kernel
theorem dX9_deal_39 : decode cX9_deal 39 = .ok (.invokevirtual 126, 3) := by decide +kernel
theorem dX9_deal_42 : decode cX9_deal 42 = .ok (.bipush 20, 2) := by decide +kernel
theorem dX9_deal_44 : decode cX9_deal 44 = .ok (.irem, 1) := by decide +kernel
theorem dX9_deal_45 : decode cX9_deal 45 = .ok (.iadd, 1) := by decide +kernel
theorem dX9_deal_46 : decode cX9_deal 46 = .ok (.istore 4, 2) := by decide +kernel
theorem dX9_deal_48 : decode cX9_deal 48 = .ok (.aload_n 0, 1) := by decide +kernel
theorem dX9_deal_49 : decode cX9_deal 49 = .ok (.iload_n 3, 1) := by decide +kernel
theorem dX9_deal_50 : decode cX9_deal 50 = .ok (.iload 4, 2) := by decide +kernel
theorem dX9_deal_52 : decode cX9_deal 52 = .ok (.iconst 1, 1) := by decide +kernel
theorem dX9_deal_53 : decode cX9_deal 53 = .ok (.aload_n 0, 1) := by decide +kernel
theorem dX9_deal_54 : decode cX9_deal 54 = .ok (.invokevirtual 126, 3) := by decide +kernel
theorem dX9_deal_57 : decode cX9_deal 57 = .ok (.bipush 40, 2) := by decide +kernel
theorem dX9_deal_59 : decode cX9_deal 59 = .ok (.irem, 1) := by decide +kernel
theorem dX9_deal_60 : decode cX9_deal 60 = .ok (.iadd, 1) := by decide +kernel
theorem dX9_deal_61 : decode cX9_deal 61 = .ok (.invokevirtual 93, 3) := by decide +kernel
theorem dX9_deal_64 : decode cX9_deal 64 = .ok (.istore 5, 2) := by decide +kernel
theorem dX9_deal_66 : decode cX9_deal 66 = .ok (.iinc 2 1, 3) := by decide +kernel
theorem dX9_deal_69 : decode cX9_deal 69 = .ok (.goto (-55), 3) := by decide +kernel
theorem dX9_deal_72 : decode cX9_deal 72 = .ok (.iload_n 2, 1) := by decide +kernel
theorem dX9_deal_73 : decode cX9_deal 73 = .ok (.ireturn, 1) := by decide +kernel
def f_X9_deal_14 (fu : Nat)  : Nat → Int32 → Int32 → Mem → Option (Int32 × Mem)
  | 0, _, _, _ => none
  | n + 1, x1, x2, m => if x1 ≤ x2 then (some (x2, m)) else (if 5 ≤ (m ((4000 + 1500 * 0) + (1 : Int32).toNatClampNeg)) then (some (x2, m)) else (doI (f_X9_draw fu  m) (fun r_3 m_2 => seqM (irem r_3 6) (fun x_4 : Int32 => doI (f_X9_draw fu  m_2) (fun r_8 m_7 => seqM (1 + (irem r_8 20)) (fun x_9 : Int32 => doI (f_X9_draw fu  m_7) (fun r_13 m_12 => doI (f_X9_comes fu x_4 x_9 (1 + (irem r_13 40)) m_12) (fun r_16 m_15 => seqM (x2 + 1) (fun x_17 : Int32 => f_X9_deal_14 fu n x1 x_17 m_15)))))))))
set_option maxHeartbeats 4000000 in
set_option maxRecDepth 100000 in
theorem w_X9_deal_14 {X : TX} {p : Program} {l : Launch} {e : Env} {s : State} {mi : MethodId} {args : Array Value} {below : List Frame} {meth : Method} {c : Code} {Q : State → Prop} {r : Int32} {mE : Mem} (C : Cx X p s mi args c RX9 cX9_deal 6) (hq : RetI X p l e (rmD 2) s mi args below meth c cX9_deal .int Q r mE) {fu : Nat} : ∀ (n : Nat) {x1 : Int32} {x2 : Int32} {m : Mem} {H : Heap} {locs : List Loc} {ls : Array Slot}, f_X9_deal_14 fu n x1 x2 m = some (r, mE) → Wd X s m H locs → lv_has ls 6 [(0, .ref (ad X 20 0)), (1, .int x1), (2, .int x2)] → W p l e (rmD 2) s mi args below meth c H locs 0 0 Q (F0 mi 14 ls []) := by
  intro n
  induction n with
  | zero =>
    intro x1 x2 m H locs ls h hW hl
    rw [f_X9_deal_14] at h
    cases h
  | succ n ih =>
    intro x1 x2 m H locs ls h hW hl
    rw [f_X9_deal_14] at h
    refine lv_iload_n C.1 C.2.1 dX9_deal_14 rfl (lv_at hl 2 rfl) ?_
    refine lv_iload_n C.1 C.2.1 dX9_deal_15 rfl (lv_at hl 1 rfl) ?_
    refine lv_icmp_ge (tgt := 72) C.1 C.2.1 dX9_deal_16 (by decide) (fun hc_20 => ?_) (fun hc_20 => ?_)
    · have h := ite_t hc_20 h
      refine lv_iload_n C.1 C.2.1 dX9_deal_72 rfl (lv_at hl 2 rfl) ?_
      exact ret_i h hq rfl hW dX9_deal_73
    · have h := ite_f hc_20 h
      refine lv_aload_n C.1 C.2.1 dX9_deal_19 rfl (lv_at hl 0 rfl) ?_
      refine zg_X9_now C hW id_20 w_1004 dX9_deal_20 ?_
      refine lv_iconst (v := 1) C.1 C.2.1 dX9_deal_23 rfl ?_
      refine zal_21 C hW id_21_0 (inb_E (by decide)) dX9_deal_24 ?_
      refine lv_iconst (v := 5) C.1 C.2.1 dX9_deal_25 rfl ?_
      refine lv_icmp_ge (tgt := 72) C.1 C.2.1 dX9_deal_26 (by decide) (fun hc_19 => ?_) (fun hc_19 => ?_)
      · have h := ite_t hc_19 h
        refine lv_iload_n C.1 C.2.1 dX9_deal_72 rfl (lv_at hl 2 rfl) ?_
        exact ret_i h hq rfl hW dX9_deal_73
      · have h := ite_f hc_19 h
        refine lv_aload_n C.1 C.2.1 dX9_deal_29 rfl (lv_at hl 0 rfl) ?_
        obtain ⟨r_3, m_2, hc_1, h⟩ := doI_E h
        refine zr_cVI C hW (c_X9_draw  hc_1 ) k_X9_draw (zr_recv C hW id_20 zco_20 rfl) w_1197 ⟨Nat.le_of_ble_eq_true rfl, Nat.le_of_ble_eq_true rfl⟩ ⟨Nat.le_refl 0, Nat.le_refl 0⟩ rfl hl.1 rfl (Nat.le_of_ble_eq_true rfl) dX9_deal_30 (fun H locs hW => ?_)
        refine lv_bipush (v := 6) C.1 C.2.1 dX9_deal_33 rfl ?_
        refine zr_irem C.1 C.2.1 dX9_deal_35 (by decide) ?_
        obtain ⟨x_4, e_5, h⟩ := seqM_E h
        refine lv_name e_5 ?_
        refine lv_istore_n (lv' := [(3, .int x_4), (0, .ref (ad X 20 0)), (1, .int x1), (2, .int x2)]) C.1 C.2.1 dX9_deal_36 rfl hl (by decide) rfl (fun ls hl => ?_)
        refine lv_iconst (v := 1) C.1 C.2.1 dX9_deal_37 rfl ?_
        refine lv_aload_n C.1 C.2.1 dX9_deal_38 rfl (lv_at hl 1 rfl) ?_
        obtain ⟨r_8, m_7, hc_6, h⟩ := doI_E h
        refine zr_cVI C hW (c_X9_draw  hc_6 ) k_X9_draw (zr_recv C hW id_20 zco_20 rfl) w_1197 ⟨Nat.le_of_ble_eq_true rfl, Nat.le_of_ble_eq_true rfl⟩ ⟨Nat.le_refl 0, Nat.le_refl 0⟩ rfl hl.1 rfl (Nat.le_of_ble_eq_true rfl) dX9_deal_39 (fun H locs hW => ?_)
        refine lv_bipush (v := 20) C.1 C.2.1 dX9_deal_42 rfl ?_
        refine zr_irem C.1 C.2.1 dX9_deal_44 (by decide) ?_
        refine lv_iadd C.1 C.2.1 dX9_deal_45 ?_
        obtain ⟨x_9, e_10, h⟩ := seqM_E h
        refine lv_name e_10 ?_
        refine lv_istore (lv' := [(4, .int x_9), (3, .int x_4), (0, .ref (ad X 20 0)), (1, .int x1), (2, .int x2)]) C.1 C.2.1 dX9_deal_46 hl (by decide) rfl (fun ls hl => ?_)
        refine lv_aload_n C.1 C.2.1 dX9_deal_48 rfl (lv_at hl 2 rfl) ?_
        refine lv_iload_n C.1 C.2.1 dX9_deal_49 rfl (lv_at hl 1 rfl) ?_
        refine lv_iload C.1 C.2.1 dX9_deal_50 (lv_at hl 0 rfl) ?_
        refine lv_iconst (v := 1) C.1 C.2.1 dX9_deal_52 rfl ?_
        refine lv_aload_n C.1 C.2.1 dX9_deal_53 rfl (lv_at hl 2 rfl) ?_
        obtain ⟨r_13, m_12, hc_11, h⟩ := doI_E h
        refine zr_cVI C hW (c_X9_draw  hc_11 ) k_X9_draw (zr_recv C hW id_20 zco_20 rfl) w_1197 ⟨Nat.le_of_ble_eq_true rfl, Nat.le_of_ble_eq_true rfl⟩ ⟨Nat.le_refl 0, Nat.le_refl 0⟩ rfl hl.1 rfl (Nat.le_of_ble_eq_true rfl) dX9_deal_54 (fun H locs hW => ?_)
        refine lv_bipush (v := 40) C.1 C.2.1 dX9_deal_57 rfl ?_
        refine zr_irem C.1 C.2.1 dX9_deal_59 (by decide) ?_
        refine lv_iadd C.1 C.2.1 dX9_deal_60 ?_
        obtain ⟨r_16, m_15, hc_14, h⟩ := doI_E h
        refine zr_cVI C hW (c_X9_comes (x1 := x_4) (x2 := x_9) (x3 := (1 + (irem r_13 40))) hc_14 ) k_X9_comes (zr_recv C hW id_20 zco_20 rfl) w_1125 ⟨Nat.le_of_ble_eq_true rfl, Nat.le_of_ble_eq_true rfl⟩ ⟨Nat.le_refl 0, Nat.le_refl 0⟩ rfl hl.1 rfl (Nat.le_of_ble_eq_true rfl) dX9_deal_61 (fun H locs hW => ?_)
        refine lv_istore (lv' := [(5, .int r_16), (4, .int x_9), (3, .int x_4), (0, .ref (ad X 20 0)), (1, .int x1), (2, .int x2)]) C.1 C.2.1 dX9_deal_64 hl (by decide) rfl (fun ls hl => ?_)
        obtain ⟨x_17, e_18, h⟩ := seqM_E h
        refine lv_iinc (v := x_17) (lv' := [(2, .int x_17), (5, .int r_16), (4, .int x_9), (3, .int x_4), (0, .ref (ad X 20 0)), (1, .int x1)]) C.1 C.2.1 dX9_deal_66 hl (k := 5) rfl (by rw [e_18]; rfl) (by decide) rfl (fun ls hl => ?_)
        refine lv_goto (tgt := 14) C.1 C.2.1 dX9_deal_69 (by decide) ?_
        exact ih h  hW (lv_sub hl [4, 5, 0] rfl)
def f_X9_deal (fu : Nat)  (x1 : Int32) (m : Mem) : Option (Int32 × Mem) := doI (f_X9_in fu x1 1 5 m) (fun r_3 m_2 => if r_3 = 0 then (some ((-1000000001), m_2)) else (f_X9_deal_14 fu fu x1 0 m_2))
set_option maxHeartbeats 4000000 in
set_option maxRecDepth 100000 in
theorem w_X9_deal {X : TX} {p : Program} {l : Launch} {e : Env} {s : State} {mi : MethodId} {args : Array Value} {below : List Frame} {meth : Method} {c : Code} {Q : State → Prop} {r : Int32} {mE : Mem} (C : Cx X p s mi args c RX9 cX9_deal 6) (hq : RetI X p l e (rmD 2) s mi args below meth c cX9_deal .int Q r mE) {fu : Nat} {x1 : Int32} {m : Mem} {H : Heap} {locs : List Loc} {ls : Array Slot} (h : f_X9_deal fu x1 m = some (r, mE))  (hW : Wd X s m H locs) (hl : lv_has ls 6 [(0, .ref (ad X 20 0)), (1, .int x1)]) : W p l e (rmD 2) s mi args below meth c H locs 0 0 Q (F0 mi 0 ls []) := by
  unfold f_X9_deal at h
  refine lv_iload_n C.1 C.2.1 dX9_deal_0 rfl (lv_at hl 1 rfl) ?_
  refine lv_iconst (v := 1) C.1 C.2.1 dX9_deal_1 rfl ?_
  refine lv_iconst (v := 5) C.1 C.2.1 dX9_deal_2 rfl ?_
  obtain ⟨r_3, m_2, hc_1, h⟩ := doI_E h
  refine zr_cSI C hW (c_X9_in (x0 := x1) (x1 := 1) (x2 := 5) hc_1 ) k_X9_in w_1117 ⟨Nat.le_of_ble_eq_true rfl, Nat.le_of_ble_eq_true rfl⟩ ⟨Nat.le_refl 0, Nat.le_refl 0⟩ rfl hl.1 rfl (Nat.le_of_ble_eq_true rfl) dX9_deal_3 (fun H locs hW => ?_)
  refine lv_if_ne (tgt := 12) C.1 C.2.1 dX9_deal_6 (by decide) (fun hc_4 => ?_) (fun hc_4 => ?_)
  · have h := ite_f hc_4 h
    refine lv_iconst (v := 0) C.1 C.2.1 dX9_deal_12 rfl ?_
    refine lv_istore_n (lv' := [(2, .int 0), (0, .ref (ad X 20 0)), (1, .int x1)]) C.1 C.2.1 dX9_deal_13 rfl hl (by decide) rfl (fun ls hl => ?_)
    exact w_X9_deal_14 C hq  fu h  hW (lv_sub hl [1, 2, 0] rfl)
  · have h := ite_t hc_4 h
    refine lv_ldc C.1 C.2.1 C.2.2.2.1 (C.2.2.2.2.1 _ w_1123) dX9_deal_9 ?_
    exact ret_i h hq rfl hW dX9_deal_11
theorem c_X9_deal {X : TX} {l : Launch} {fu : Nat} {x1 : Int32} {m mE : Mem} {r : Int32} (h : f_X9_deal fu x1 m = some (r, mE))  : MetI X l yX9_deal cX9_deal 6 .int 2 [.ref (ad X 20 0), .int x1] m r mE :=
  met_I (by decide) (Nat.le_of_ble_eq_true rfl) (fun p e s mi args below meth c ls Q C hq hW hl => w_X9_deal C hq h  hW (lv_sub hl [0, 1] rfl))
theorem k_X9_deal : CalV yX9_deal cX9_deal 6 (some .int) RX9 1 := ⟨w_1194, w_1195, w_70, w_1196, by decide +kernel⟩
theorem dX9_seed_0 : decode cX9_seed 0 = .ok (.aload_n 0, 1) := by decide +kernel
theorem dX9_seed_1 : decode cX9_seed 1 = .ok (.iconst 0, 1) := by decide +kernel
theorem dX9_seed_2 : decode cX9_seed 2 = .ok (.iload_n 1, 1) := by decide +kernel
theorem dX9_seed_3 : decode cX9_seed 3 = .ok (.invokevirtual 122, 3) := by decide +kernel
theorem dX9_seed_6 : decode cX9_seed 6 = .ok (.ireturn, 1) := by decide +kernel
def f_X9_seed (fu : Nat)  (x1 : Int32) (m : Mem) : Option (Int32 × Mem) := doI (f_X9_swaps fu 0 x1 m) (fun r_3 m_2 => some (r_3, m_2))
set_option maxHeartbeats 4000000 in
set_option maxRecDepth 100000 in
theorem w_X9_seed {X : TX} {p : Program} {l : Launch} {e : Env} {s : State} {mi : MethodId} {args : Array Value} {below : List Frame} {meth : Method} {c : Code} {Q : State → Prop} {r : Int32} {mE : Mem} (C : Cx X p s mi args c RX9 cX9_seed 2) (hq : RetI X p l e (rmD 1) s mi args below meth c cX9_seed .int Q r mE) {fu : Nat} {x1 : Int32} {m : Mem} {H : Heap} {locs : List Loc} {ls : Array Slot} (h : f_X9_seed fu x1 m = some (r, mE))  (hW : Wd X s m H locs) (hl : lv_has ls 2 [(0, .ref (ad X 20 0)), (1, .int x1)]) : W p l e (rmD 1) s mi args below meth c H locs 0 0 Q (F0 mi 0 ls []) := by
  unfold f_X9_seed at h
  refine lv_aload_n C.1 C.2.1 dX9_seed_0 rfl (lv_at hl 0 rfl) ?_
  refine lv_iconst (v := 0) C.1 C.2.1 dX9_seed_1 rfl ?_
  refine lv_iload_n C.1 C.2.1 dX9_seed_2 rfl (lv_at hl 1 rfl) ?_
  obtain ⟨r_3, m_2, hc_1, h⟩ := doI_E h
  refine zr_cVI C hW (c_X9_swaps (x1 := 0) (x2 := x1) hc_1 ) k_X9_swaps (zr_recv C hW id_20 zco_20 rfl) w_1173 ⟨Nat.le_of_ble_eq_true rfl, Nat.le_of_ble_eq_true rfl⟩ ⟨Nat.le_refl 0, Nat.le_refl 0⟩ rfl hl.1 rfl (Nat.le_of_ble_eq_true rfl) dX9_seed_3 (fun H locs hW => ?_)
  exact ret_i h hq rfl hW dX9_seed_6
theorem c_X9_seed {X : TX} {l : Launch} {fu : Nat} {x1 : Int32} {m mE : Mem} {r : Int32} (h : f_X9_seed fu x1 m = some (r, mE))  : MetI X l yX9_seed cX9_seed 2 .int 1 [.ref (ad X 20 0), .int x1] m r mE :=
  met_I (by decide) (Nat.le_of_ble_eq_true rfl) (fun p e s mi args below meth c ls Q C hq hW hl => w_X9_seed C hq h  hW (lv_sub hl [0, 1] rfl))
theorem k_X9_seed : CalV yX9_seed cX9_seed 2 (some .int) RX9 1 := ⟨w_1203, w_1204, w_70, w_1205, by decide +kernel⟩
theorem dX9_speaking_0 : decode cX9_speaking 0 = .ok (.iconst 0, 1) := by decide +kernel
theorem dX9_speaking_1 : decode cX9_speaking 1 = .ok (.istore_n 1, 1) := by decide +kernel
theorem dX9_speaking_2 : decode cX9_speaking 2 = .ok (.iconst 0, 1) := by decide +kernel
theorem dX9_speaking_3 : decode cX9_speaking 3 = .ok (.istore_n 2, 1) := by decide +kernel
theorem dX9_speaking_4 : decode cX9_speaking 4 = .ok (.iload_n 2, 1) := by decide +kernel
theorem dX9_speaking_5 : decode cX9_speaking 5 = .ok (.aload_n 0, 1) := by decide +kernel
theorem dX9_speaking_6 : decode cX9_speaking 6 = .ok (.getfield 9, 3) := by decide +kernel
theorem dX9_speaking_9 : decode cX9_speaking 9 = .ok (.iconst 1, 1) := by decide +kernel
theorem dX9_speaking_10 : decode cX9_speaking 10 = .ok (.iaload, 1) := by decide +kernel
theorem dX9_speaking_11 : decode cX9_speaking 11 = .ok (.if_icmp .ge 28, 3) := by decide +kernel
theorem dX9_speaking_14 : decode cX9_speaking 14 = .ok (.iload_n 1, 1) := by decide +kernel
theorem dX9_speaking_15 : decode cX9_speaking 15 = .ok (.aload_n 0, 1) := by decide +kernel
theorem dX9_speaking_16 : decode cX9_speaking 16 = .ok (.iload_n 2, 1) := by decide +kernel
theorem dX9_speaking_17 : decode cX9_speaking 17 = .ok (.iconst 4, 1) := by decide +kernel
theorem dX9_speaking_18 : decode cX9_speaking 18 = .ok (.invokevirtual 97, 3) := by decide +kernel
theorem dX9_speaking_21 : decode cX9_speaking 21 = .ok (.ifCond .le 9, 3) := by decide +kernel
theorem dX9_speaking_24 : decode cX9_speaking 24 = .ok (.iconst 1, 1) := by decide +kernel
theorem dX9_speaking_25 : decode cX9_speaking 25 = .ok (.iload_n 2, 1) := by decide +kernel
theorem dX9_speaking_26 : decode cX9_speaking 26 = .ok (.ishl, 1) := by decide +kernel
theorem dX9_speaking_27 : decode cX9_speaking 27 = .ok (.goto 4, 3) := by decide +kernel
theorem dX9_speaking_30 : decode cX9_speaking 30 = .ok (.iconst 0, 1) := by decide +kernel
theorem dX9_speaking_31 : decode cX9_speaking 31 = .ok (.ior, 1) := by decide +kernel
theorem dX9_speaking_32 : decode cX9_speaking 32 = .ok (.istore_n 1, 1) := by decide +kernel
theorem dX9_speaking_33 : decode cX9_speaking 33 = .ok (.iinc 2 1, 3) := by decide +kernel
theorem dX9_speaking_36 : decode cX9_speaking 36 = .ok (.goto (-32), 3) := by decide +kernel
theorem dX9_speaking_39 : decode cX9_speaking 39 = .ok (.iload_n 1, 1) := by decide +kernel
theorem dX9_speaking_40 : decode cX9_speaking 40 = .ok (.ireturn, 1) := by decide +kernel
def f_X9_speaking_31 (fu : Nat) (k_4 : Int32 → Int32 → Mem → Option (Int32 × Mem)) (x2 : Int32) (y0 : Int32) (y1 : Int32) (m : Mem) : Option (Int32 × Mem) := seqM (y0 ||| y1) (fun x_1 : Int32 => seqM (x2 + 1) (fun x_3 : Int32 => k_4 x_1 x_3 m))
set_option maxHeartbeats 4000000 in
set_option maxRecDepth 100000 in
theorem w_X9_speaking_31 {X : TX} {p : Program} {l : Launch} {e : Env} {s : State} {mi : MethodId} {args : Array Value} {below : List Frame} {meth : Method} {c : Code} {Q : State → Prop} {r : Int32} {mE : Mem} (C : Cx X p s mi args c RX9 cX9_speaking 3) (hq : RetI X p l e (rmD 1) s mi args below meth c cX9_speaking .int Q r mE) {fu : Nat} {k_4 : Int32 → Int32 → Mem → Option (Int32 × Mem)} (hk_4 : ∀ {x1 : Int32} {x2 : Int32} {m : Mem} {H : Heap} {locs : List Loc} {ls : Array Slot}, k_4 x1 x2 m = some (r, mE) → Wd X s m H locs → lv_has ls 3 [(0, .ref (ad X 20 0)), (1, .int x1), (2, .int x2)] → W p l e (rmD 1) s mi args below meth c H locs 0 0 Q (F0 mi 4 ls [])) {x2 : Int32} {y0 : Int32} {y1 : Int32} {m : Mem} {H : Heap} {locs : List Loc} {ls : Array Slot} (h : f_X9_speaking_31 fu k_4 x2 y0 y1 m = some (r, mE))  (hW : Wd X s m H locs) (hl : lv_has ls 3 [(0, .ref (ad X 20 0)), (2, .int x2)]) : W p l e (rmD 1) s mi args below meth c H locs 0 0 Q (F0 mi 31 ls [.int y1, .int y0]) := by
  unfold f_X9_speaking_31 at h
  refine lv_ior C.1 C.2.1 dX9_speaking_31 ?_
  obtain ⟨x_1, e_2, h⟩ := seqM_E h
  refine lv_name e_2 ?_
  refine lv_istore_n (lv' := [(1, .int x_1), (0, .ref (ad X 20 0)), (2, .int x2)]) C.1 C.2.1 dX9_speaking_32 rfl hl (by decide) rfl (fun ls hl => ?_)
  obtain ⟨x_3, e_4, h⟩ := seqM_E h
  refine lv_iinc (v := x_3) (lv' := [(2, .int x_3), (1, .int x_1), (0, .ref (ad X 20 0))]) C.1 C.2.1 dX9_speaking_33 hl (k := 2) rfl (by rw [e_4]; rfl) (by decide) rfl (fun ls hl => ?_)
  refine lv_goto (tgt := 4) C.1 C.2.1 dX9_speaking_36 (by decide) ?_
  exact hk_4 h  hW (lv_sub hl [2, 1, 0] rfl)
def f_X9_speaking_4 (fu : Nat)  : Nat → Int32 → Int32 → Mem → Option (Int32 × Mem)
  | 0, _, _, _ => none
  | n + 1, x1, x2, m => if (m ((4000 + 1500 * 0) + (1 : Int32).toNatClampNeg)) ≤ x2 then (some (x1, m)) else (doI (f_X9_of fu x2 4 m) (fun r_3 m_2 => if r_3 ≤ 0 then (f_X9_speaking_31 fu (f_X9_speaking_4 fu n) x2 x1 0 m_2) else (f_X9_speaking_31 fu (f_X9_speaking_4 fu n) x2 x1 (1 <<< (x2 &&& 31)) m_2)))
set_option maxHeartbeats 4000000 in
set_option maxRecDepth 100000 in
theorem w_X9_speaking_4 {X : TX} {p : Program} {l : Launch} {e : Env} {s : State} {mi : MethodId} {args : Array Value} {below : List Frame} {meth : Method} {c : Code} {Q : State → Prop} {r : Int32} {mE : Mem} (C : Cx X p s mi args c RX9 cX9_speaking 3) (hq : RetI X p l e (rmD 1) s mi args below meth c cX9_speaking .int Q r mE) {fu : Nat} : ∀ (n : Nat) {x1 : Int32} {x2 : Int32} {m : Mem} {H : Heap} {locs : List Loc} {ls : Array Slot}, f_X9_speaking_4 fu n x1 x2 m = some (r, mE) → Wd X s m H locs → lv_has ls 3 [(0, .ref (ad X 20 0)), (1, .int x1), (2, .int x2)] → W p l e (rmD 1) s mi args below meth c H locs 0 0 Q (F0 mi 4 ls []) := by
  intro n
  induction n with
  | zero =>
    intro x1 x2 m H locs ls h hW hl
    rw [f_X9_speaking_4] at h
    cases h
  | succ n ih =>
    intro x1 x2 m H locs ls h hW hl
    rw [f_X9_speaking_4] at h
    refine lv_iload_n C.1 C.2.1 dX9_speaking_4 rfl (lv_at hl 2 rfl) ?_
    refine lv_aload_n C.1 C.2.1 dX9_speaking_5 rfl (lv_at hl 0 rfl) ?_
    refine zg_X9_now C hW id_20 w_1004 dX9_speaking_6 ?_
    refine lv_iconst (v := 1) C.1 C.2.1 dX9_speaking_9 rfl ?_
    refine zal_21 C hW id_21_0 (inb_E (by decide)) dX9_speaking_10 ?_
    refine lv_icmp_ge (tgt := 39) C.1 C.2.1 dX9_speaking_11 (by decide) (fun hc_5 => ?_) (fun hc_5 => ?_)
    · have h := ite_t hc_5 h
      refine lv_iload_n C.1 C.2.1 dX9_speaking_39 rfl (lv_at hl 1 rfl) ?_
      exact ret_i h hq rfl hW dX9_speaking_40
    · have h := ite_f hc_5 h
      refine lv_iload_n C.1 C.2.1 dX9_speaking_14 rfl (lv_at hl 1 rfl) ?_
      refine lv_aload_n C.1 C.2.1 dX9_speaking_15 rfl (lv_at hl 0 rfl) ?_
      refine lv_iload_n C.1 C.2.1 dX9_speaking_16 rfl (lv_at hl 2 rfl) ?_
      refine lv_iconst (v := 4) C.1 C.2.1 dX9_speaking_17 rfl ?_
      obtain ⟨r_3, m_2, hc_1, h⟩ := doI_E h
      refine zr_cVI C hW (c_X9_of (x1 := x2) (x2 := 4) hc_1 ) k_X9_of (zr_recv C hW id_20 zco_20 rfl) w_1141 ⟨Nat.le_of_ble_eq_true rfl, Nat.le_of_ble_eq_true rfl⟩ ⟨Nat.le_refl 0, Nat.le_refl 0⟩ rfl hl.1 rfl (Nat.le_of_ble_eq_true rfl) dX9_speaking_18 (fun H locs hW => ?_)
      refine lv_if_le (tgt := 30) C.1 C.2.1 dX9_speaking_21 (by decide) (fun hc_4 => ?_) (fun hc_4 => ?_)
      · have h := ite_t hc_4 h
        refine lv_iconst (v := 0) C.1 C.2.1 dX9_speaking_30 rfl ?_
        exact w_X9_speaking_31 C hq ih h  hW (lv_sub hl [0, 2] rfl)
      · have h := ite_f hc_4 h
        refine lv_iconst (v := 1) C.1 C.2.1 dX9_speaking_24 rfl ?_
        refine lv_iload_n C.1 C.2.1 dX9_speaking_25 rfl (lv_at hl 2 rfl) ?_
        refine lv_ishl C.1 C.2.1 dX9_speaking_26 ?_
        refine lv_goto (tgt := 31) C.1 C.2.1 dX9_speaking_27 (by decide) ?_
        exact w_X9_speaking_31 C hq ih h  hW (lv_sub hl [0, 2] rfl)
def f_X9_speaking (fu : Nat)   (m : Mem) : Option (Int32 × Mem) := f_X9_speaking_4 fu fu 0 0 m
set_option maxHeartbeats 4000000 in
set_option maxRecDepth 100000 in
theorem w_X9_speaking {X : TX} {p : Program} {l : Launch} {e : Env} {s : State} {mi : MethodId} {args : Array Value} {below : List Frame} {meth : Method} {c : Code} {Q : State → Prop} {r : Int32} {mE : Mem} (C : Cx X p s mi args c RX9 cX9_speaking 3) (hq : RetI X p l e (rmD 1) s mi args below meth c cX9_speaking .int Q r mE) {fu : Nat}  {m : Mem} {H : Heap} {locs : List Loc} {ls : Array Slot} (h : f_X9_speaking fu  m = some (r, mE))  (hW : Wd X s m H locs) (hl : lv_has ls 3 [(0, .ref (ad X 20 0))]) : W p l e (rmD 1) s mi args below meth c H locs 0 0 Q (F0 mi 0 ls []) := by
  unfold f_X9_speaking at h
  refine lv_iconst (v := 0) C.1 C.2.1 dX9_speaking_0 rfl ?_
  refine lv_istore_n (lv' := [(1, .int 0), (0, .ref (ad X 20 0))]) C.1 C.2.1 dX9_speaking_1 rfl hl (by decide) rfl (fun ls hl => ?_)
  refine lv_iconst (v := 0) C.1 C.2.1 dX9_speaking_2 rfl ?_
  refine lv_istore_n (lv' := [(2, .int 0), (1, .int 0), (0, .ref (ad X 20 0))]) C.1 C.2.1 dX9_speaking_3 rfl hl (by decide) rfl (fun ls hl => ?_)
  exact w_X9_speaking_4 C hq  fu h  hW (lv_sub hl [2, 1, 0] rfl)
theorem c_X9_speaking {X : TX} {l : Launch} {fu : Nat}  {m mE : Mem} {r : Int32} (h : f_X9_speaking fu  m = some (r, mE))  : MetI X l yX9_speaking cX9_speaking 3 .int 1 [.ref (ad X 20 0)] m r mE :=
  met_I (by decide) (Nat.le_of_ble_eq_true rfl) (fun p e s mi args below meth c ls Q C hq hW hl => w_X9_speaking C hq h  hW (lv_sub hl [0] rfl))
theorem k_X9_speaking : CalV yX9_speaking cX9_speaking 3 (some .int) RX9 0 := ⟨w_1223, w_37, w_70, w_1224, by decide +kernel⟩
theorem dX9_ready_0 : decode cX9_ready 0 = .ok (.iconst 0, 1) := by decide +kernel
theorem dX9_ready_1 : decode cX9_ready 1 = .ok (.istore_n 1, 1) := by decide +kernel
theorem dX9_ready_2 : decode cX9_ready 2 = .ok (.iconst 0, 1) := by decide +kernel
theorem dX9_ready_3 : decode cX9_ready 3 = .ok (.istore_n 2, 1) := by decide +kernel
theorem dX9_ready_4 : decode cX9_ready 4 = .ok (.iload_n 2, 1) := by decide +kernel
theorem dX9_ready_5 : decode cX9_ready 5 = .ok (.aload_n 0, 1) := by decide +kernel
theorem dX9_ready_6 : decode cX9_ready 6 = .ok (.getfield 9, 3) := by decide +kernel
theorem dX9_ready_9 : decode cX9_ready 9 = .ok (.iconst 1, 1) := by decide +kernel
theorem dX9_ready_10 : decode cX9_ready 10 = .ok (.iaload, 1) := by decide +kernel
theorem dX9_ready_11 : decode cX9_ready 11 = .ok (.if_icmp .ge 44, 3) := by decide +kernel
theorem dX9_ready_14 : decode cX9_ready 14 = .ok (.iload_n 1, 1) := by decide +kernel
theorem dX9_ready_15 : decode cX9_ready 15 = .ok (.aload_n 0, 1) := by decide +kernel
theorem dX9_ready_16 : decode cX9_ready 16 = .ok (.iload_n 2, 1) := by decide +kernel
theorem dX9_ready_17 : decode cX9_ready 17 = .ok (.iconst 0, 1) := by decide +kernel
theorem dX9_ready_18 : decode cX9_ready 18 = .ok (.invokevirtual 97, 3) := by decide +kernel
theorem dX9_ready_21 : decode cX9_ready 21 = .ok (.iconst 5, 1) := by decide +kernel
theorem dX9_ready_22 : decode cX9_ready 22 = .ok (.if_icmp .eq 24, 3) := by decide +kernel
theorem dX9_ready_25 : decode cX9_ready 25 = .ok (.aload_n 0, 1) := by decide +kernel
theorem dX9_ready_26 : decode cX9_ready 26 = .ok (.getfield 9, 3) := by decide +kernel
theorem dX9_ready_29 : decode cX9_ready 29 = .ok (.bipush 6, 2) := by decide +kernel
theorem dX9_ready_31 : decode cX9_ready 31 = .ok (.iaload, 1) := by decide +kernel
theorem dX9_ready_32 : decode cX9_ready 32 = .ok (.aload_n 0, 1) := by decide +kernel
theorem dX9_ready_33 : decode cX9_ready 33 = .ok (.iload_n 2, 1) := by decide +kernel
theorem dX9_ready_34 : decode cX9_ready 34 = .ok (.invokevirtual 105, 3) := by decide +kernel
theorem dX9_ready_37 : decode cX9_ready 37 = .ok (.if_icmp .lt 9, 3) := by decide +kernel
theorem dX9_ready_40 : decode cX9_ready 40 = .ok (.iconst 1, 1) := by decide +kernel
theorem dX9_ready_41 : decode cX9_ready 41 = .ok (.iload_n 2, 1) := by decide +kernel
theorem dX9_ready_42 : decode cX9_ready 42 = .ok (.ishl, 1) := by decide +kernel
theorem dX9_ready_43 : decode cX9_ready 43 = .ok (.goto 4, 3) := by decide +kernel
theorem dX9_ready_46 : decode cX9_ready 46 = .ok (.iconst 0, 1) := by decide +kernel
theorem dX9_ready_47 : decode cX9_ready 47 = .ok (.ior, 1) := by decide +kernel
theorem dX9_ready_48 : decode cX9_ready 48 = .ok (.istore_n 1, 1) := by decide +kernel
theorem dX9_ready_49 : decode cX9_ready 49 = .ok (.iinc 2 1, 3) := by decide +kernel
theorem dX9_ready_52 : decode cX9_ready 52 = .ok (.goto (-48), 3) := by decide +kernel
theorem dX9_ready_55 : decode cX9_ready 55 = .ok (.iload_n 1, 1) := by decide +kernel
theorem dX9_ready_56 : decode cX9_ready 56 = .ok (.ireturn, 1) := by decide +kernel
def f_X9_ready_47 (fu : Nat) (k_4 : Int32 → Int32 → Mem → Option (Int32 × Mem)) (x2 : Int32) (y0 : Int32) (y1 : Int32) (m : Mem) : Option (Int32 × Mem) := seqM (y0 ||| y1) (fun x_1 : Int32 => seqM (x2 + 1) (fun x_3 : Int32 => k_4 x_1 x_3 m))
set_option maxHeartbeats 4000000 in
set_option maxRecDepth 100000 in
theorem w_X9_ready_47 {X : TX} {p : Program} {l : Launch} {e : Env} {s : State} {mi : MethodId} {args : Array Value} {below : List Frame} {meth : Method} {c : Code} {Q : State → Prop} {r : Int32} {mE : Mem} (C : Cx X p s mi args c RX9 cX9_ready 3) (hq : RetI X p l e (rmD 2) s mi args below meth c cX9_ready .int Q r mE) {fu : Nat} {k_4 : Int32 → Int32 → Mem → Option (Int32 × Mem)} (hk_4 : ∀ {x1 : Int32} {x2 : Int32} {m : Mem} {H : Heap} {locs : List Loc} {ls : Array Slot}, k_4 x1 x2 m = some (r, mE) → Wd X s m H locs → lv_has ls 3 [(0, .ref (ad X 20 0)), (1, .int x1), (2, .int x2)] → W p l e (rmD 2) s mi args below meth c H locs 0 0 Q (F0 mi 4 ls [])) {x2 : Int32} {y0 : Int32} {y1 : Int32} {m : Mem} {H : Heap} {locs : List Loc} {ls : Array Slot} (h : f_X9_ready_47 fu k_4 x2 y0 y1 m = some (r, mE))  (hW : Wd X s m H locs) (hl : lv_has ls 3 [(0, .ref (ad X 20 0)), (2, .int x2)]) : W p l e (rmD 2) s mi args below meth c H locs 0 0 Q (F0 mi 47 ls [.int y1, .int y0]) := by
  unfold f_X9_ready_47 at h
  refine lv_ior C.1 C.2.1 dX9_ready_47 ?_
  obtain ⟨x_1, e_2, h⟩ := seqM_E h
  refine lv_name e_2 ?_
  refine lv_istore_n (lv' := [(1, .int x_1), (0, .ref (ad X 20 0)), (2, .int x2)]) C.1 C.2.1 dX9_ready_48 rfl hl (by decide) rfl (fun ls hl => ?_)
  obtain ⟨x_3, e_4, h⟩ := seqM_E h
  refine lv_iinc (v := x_3) (lv' := [(2, .int x_3), (1, .int x_1), (0, .ref (ad X 20 0))]) C.1 C.2.1 dX9_ready_49 hl (k := 2) rfl (by rw [e_4]; rfl) (by decide) rfl (fun ls hl => ?_)
  refine lv_goto (tgt := 4) C.1 C.2.1 dX9_ready_52 (by decide) ?_
  exact hk_4 h  hW (lv_sub hl [2, 1, 0] rfl)
def f_X9_ready_46 (fu : Nat) (k_4 : Int32 → Int32 → Mem → Option (Int32 × Mem)) (x2 : Int32) (y0 : Int32) (m : Mem) : Option (Int32 × Mem) := f_X9_ready_47 fu k_4 x2 y0 0 m
set_option maxHeartbeats 4000000 in
set_option maxRecDepth 100000 in
theorem w_X9_ready_46 {X : TX} {p : Program} {l : Launch} {e : Env} {s : State} {mi : MethodId} {args : Array Value} {below : List Frame} {meth : Method} {c : Code} {Q : State → Prop} {r : Int32} {mE : Mem} (C : Cx X p s mi args c RX9 cX9_ready 3) (hq : RetI X p l e (rmD 2) s mi args below meth c cX9_ready .int Q r mE) {fu : Nat} {k_4 : Int32 → Int32 → Mem → Option (Int32 × Mem)} (hk_4 : ∀ {x1 : Int32} {x2 : Int32} {m : Mem} {H : Heap} {locs : List Loc} {ls : Array Slot}, k_4 x1 x2 m = some (r, mE) → Wd X s m H locs → lv_has ls 3 [(0, .ref (ad X 20 0)), (1, .int x1), (2, .int x2)] → W p l e (rmD 2) s mi args below meth c H locs 0 0 Q (F0 mi 4 ls [])) {x2 : Int32} {y0 : Int32} {m : Mem} {H : Heap} {locs : List Loc} {ls : Array Slot} (h : f_X9_ready_46 fu k_4 x2 y0 m = some (r, mE))  (hW : Wd X s m H locs) (hl : lv_has ls 3 [(0, .ref (ad X 20 0)), (2, .int x2)]) : W p l e (rmD 2) s mi args below meth c H locs 0 0 Q (F0 mi 46 ls [.int y0]) := by
  unfold f_X9_ready_46 at h
  refine lv_iconst (v := 0) C.1 C.2.1 dX9_ready_46 rfl ?_
  exact w_X9_ready_47 C hq hk_4 h  hW (lv_sub hl [0, 1] rfl)
def f_X9_ready_4 (fu : Nat)  : Nat → Int32 → Int32 → Mem → Option (Int32 × Mem)
  | 0, _, _, _ => none
  | n + 1, x1, x2, m => if (m ((4000 + 1500 * 0) + (1 : Int32).toNatClampNeg)) ≤ x2 then (some (x1, m)) else (doI (f_X9_of fu x2 0 m) (fun r_3 m_2 => if r_3 = 5 then (f_X9_ready_46 fu (f_X9_ready_4 fu n) x2 x1 m_2) else (doI (f_X9_waitsOf fu x2 m_2) (fun r_6 m_5 => if (m_2 ((4000 + 1500 * 0) + (6 : Int32).toNatClampNeg)) < r_6 then (f_X9_ready_46 fu (f_X9_ready_4 fu n) x2 x1 m_5) else (f_X9_ready_47 fu (f_X9_ready_4 fu n) x2 x1 (1 <<< (x2 &&& 31)) m_5)))))
set_option maxHeartbeats 4000000 in
set_option maxRecDepth 100000 in
theorem w_X9_ready_4 {X : TX} {p : Program} {l : Launch} {e : Env} {s : State} {mi : MethodId} {args : Array Value} {below : List Frame} {meth : Method} {c : Code} {Q : State → Prop} {r : Int32} {mE : Mem} (C : Cx X p s mi args c RX9 cX9_ready 3) (hq : RetI X p l e (rmD 2) s mi args below meth c cX9_ready .int Q r mE) {fu : Nat} : ∀ (n : Nat) {x1 : Int32} {x2 : Int32} {m : Mem} {H : Heap} {locs : List Loc} {ls : Array Slot}, f_X9_ready_4 fu n x1 x2 m = some (r, mE) → Wd X s m H locs → lv_has ls 3 [(0, .ref (ad X 20 0)), (1, .int x1), (2, .int x2)] → W p l e (rmD 2) s mi args below meth c H locs 0 0 Q (F0 mi 4 ls []) := by
  intro n
  induction n with
  | zero =>
    intro x1 x2 m H locs ls h hW hl
    rw [f_X9_ready_4] at h
    cases h
  | succ n ih =>
    intro x1 x2 m H locs ls h hW hl
    rw [f_X9_ready_4] at h
    refine lv_iload_n C.1 C.2.1 dX9_ready_4 rfl (lv_at hl 2 rfl) ?_
    refine lv_aload_n C.1 C.2.1 dX9_ready_5 rfl (lv_at hl 0 rfl) ?_
    refine zg_X9_now C hW id_20 w_1004 dX9_ready_6 ?_
    refine lv_iconst (v := 1) C.1 C.2.1 dX9_ready_9 rfl ?_
    refine zal_21 C hW id_21_0 (inb_E (by decide)) dX9_ready_10 ?_
    refine lv_icmp_ge (tgt := 55) C.1 C.2.1 dX9_ready_11 (by decide) (fun hc_9 => ?_) (fun hc_9 => ?_)
    · have h := ite_t hc_9 h
      refine lv_iload_n C.1 C.2.1 dX9_ready_55 rfl (lv_at hl 1 rfl) ?_
      exact ret_i h hq rfl hW dX9_ready_56
    · have h := ite_f hc_9 h
      refine lv_iload_n C.1 C.2.1 dX9_ready_14 rfl (lv_at hl 1 rfl) ?_
      refine lv_aload_n C.1 C.2.1 dX9_ready_15 rfl (lv_at hl 0 rfl) ?_
      refine lv_iload_n C.1 C.2.1 dX9_ready_16 rfl (lv_at hl 2 rfl) ?_
      refine lv_iconst (v := 0) C.1 C.2.1 dX9_ready_17 rfl ?_
      obtain ⟨r_3, m_2, hc_1, h⟩ := doI_E h
      refine zr_cVI C hW (c_X9_of (x1 := x2) (x2 := 0) hc_1 ) k_X9_of (zr_recv C hW id_20 zco_20 rfl) w_1141 ⟨Nat.le_of_ble_eq_true rfl, Nat.le_of_ble_eq_true rfl⟩ ⟨Nat.le_refl 0, Nat.le_refl 0⟩ rfl hl.1 rfl (Nat.le_of_ble_eq_true rfl) dX9_ready_18 (fun H locs hW => ?_)
      refine lv_iconst (v := 5) C.1 C.2.1 dX9_ready_21 rfl ?_
      refine lv_icmp_eq (tgt := 46) C.1 C.2.1 dX9_ready_22 (by decide) (fun hc_8 => ?_) (fun hc_8 => ?_)
      · have h := ite_t hc_8 h
        exact w_X9_ready_46 C hq ih h  hW (lv_sub hl [0, 2] rfl)
      · have h := ite_f hc_8 h
        refine lv_aload_n C.1 C.2.1 dX9_ready_25 rfl (lv_at hl 0 rfl) ?_
        refine zg_X9_now C hW id_20 w_1004 dX9_ready_26 ?_
        refine lv_bipush (v := 6) C.1 C.2.1 dX9_ready_29 rfl ?_
        refine zal_21 C hW id_21_0 (inb_E (by decide)) dX9_ready_31 ?_
        refine lv_aload_n C.1 C.2.1 dX9_ready_32 rfl (lv_at hl 0 rfl) ?_
        refine lv_iload_n C.1 C.2.1 dX9_ready_33 rfl (lv_at hl 2 rfl) ?_
        obtain ⟨r_6, m_5, hc_4, h⟩ := doI_E h
        refine zr_cVI C hW (c_X9_waitsOf (x1 := x2) hc_4 ) k_X9_waitsOf (zr_recv C hW id_20 zco_20 rfl) w_1145 ⟨Nat.le_of_ble_eq_true rfl, Nat.le_of_ble_eq_true rfl⟩ ⟨Nat.le_refl 0, Nat.le_refl 0⟩ rfl hl.1 rfl (Nat.le_of_ble_eq_true rfl) dX9_ready_34 (fun H locs hW => ?_)
        refine lv_icmp_lt (tgt := 46) C.1 C.2.1 dX9_ready_37 (by decide) (fun hc_7 => ?_) (fun hc_7 => ?_)
        · have h := ite_t hc_7 h
          exact w_X9_ready_46 C hq ih h  hW (lv_sub hl [0, 2] rfl)
        · have h := ite_f hc_7 h
          refine lv_iconst (v := 1) C.1 C.2.1 dX9_ready_40 rfl ?_
          refine lv_iload_n C.1 C.2.1 dX9_ready_41 rfl (lv_at hl 2 rfl) ?_
          refine lv_ishl C.1 C.2.1 dX9_ready_42 ?_
          refine lv_goto (tgt := 47) C.1 C.2.1 dX9_ready_43 (by decide) ?_
          exact w_X9_ready_47 C hq ih h  hW (lv_sub hl [0, 2] rfl)
def f_X9_ready (fu : Nat)   (m : Mem) : Option (Int32 × Mem) := f_X9_ready_4 fu fu 0 0 m
set_option maxHeartbeats 4000000 in
set_option maxRecDepth 100000 in
theorem w_X9_ready {X : TX} {p : Program} {l : Launch} {e : Env} {s : State} {mi : MethodId} {args : Array Value} {below : List Frame} {meth : Method} {c : Code} {Q : State → Prop} {r : Int32} {mE : Mem} (C : Cx X p s mi args c RX9 cX9_ready 3) (hq : RetI X p l e (rmD 2) s mi args below meth c cX9_ready .int Q r mE) {fu : Nat}  {m : Mem} {H : Heap} {locs : List Loc} {ls : Array Slot} (h : f_X9_ready fu  m = some (r, mE))  (hW : Wd X s m H locs) (hl : lv_has ls 3 [(0, .ref (ad X 20 0))]) : W p l e (rmD 2) s mi args below meth c H locs 0 0 Q (F0 mi 0 ls []) := by
  unfold f_X9_ready at h
  refine lv_iconst (v := 0) C.1 C.2.1 dX9_ready_0 rfl ?_
  refine lv_istore_n (lv' := [(1, .int 0), (0, .ref (ad X 20 0))]) C.1 C.2.1 dX9_ready_1 rfl hl (by decide) rfl (fun ls hl => ?_)
  refine lv_iconst (v := 0) C.1 C.2.1 dX9_ready_2 rfl ?_
  refine lv_istore_n (lv' := [(2, .int 0), (1, .int 0), (0, .ref (ad X 20 0))]) C.1 C.2.1 dX9_ready_3 rfl hl (by decide) rfl (fun ls hl => ?_)
  exact w_X9_ready_4 C hq  fu h  hW (lv_sub hl [2, 1, 0] rfl)
theorem c_X9_ready {X : TX} {l : Launch} {fu : Nat}  {m mE : Mem} {r : Int32} (h : f_X9_ready fu  m = some (r, mE))  : MetI X l yX9_ready cX9_ready 3 .int 2 [.ref (ad X 20 0)] m r mE :=
  met_I (by decide) (Nat.le_of_ble_eq_true rfl) (fun p e s mi args below meth c ls Q C hq hW hl => w_X9_ready C hq h  hW (lv_sub hl [0] rfl))
theorem k_X9_ready : CalV yX9_ready cX9_ready 3 (some .int) RX9 0 := ⟨w_1227, w_38, w_70, w_1228, by decide +kernel⟩
