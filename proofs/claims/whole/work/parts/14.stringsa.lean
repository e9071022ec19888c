theorem dJ0_coder_7d493_0 : decode cJ0_coder_7d493 0 = .ok (.getstatic 38, 3) := by decide +kernel
theorem dJ0_coder_7d493_3 : decode cJ0_coder_7d493 3 = .ok (.ifCond .eq 10, 3) := by decide +kernel
theorem dJ0_coder_7d493_6 : decode cJ0_coder_7d493 6 = .ok (.aload_n 0, 1) := by decide +kernel
theorem dJ0_coder_7d493_7 : decode cJ0_coder_7d493 7 = .ok (.getfield 15, 3) := by decide +kernel
theorem dJ0_coder_7d493_10 : decode cJ0_coder_7d493 10 = .ok (.goto 4, 3) := by decide +kernel
theorem dJ0_coder_7d493_13 : decode cJ0_coder_7d493 13 = .ok (.iconst 1, 1) := by decide +kernel
theorem dJ0_coder_7d493_14 : decode cJ0_coder_7d493 14 = .ok (.ireturn, 1) := by decide +kernel
def f_J0_coder_7d493 (fu : Nat)  (i0 : Nat) (m : Mem) : Option (Int32 × Mem) := chk (isY 0) (some (0, m))
set_option maxHeartbeats 4000000 in
set_option maxRecDepth 100000 in
theorem w_J0_coder_7d493 {X : TX} {p : Program} {l : Launch} {e : Env} {s : State} {mi : MethodId} {args : Array Value} {below : List Frame} {meth : Method} {c : Code} {Q : State → Prop} {r : Int32} {mE : Mem} (C : Cx X p s mi args c RJ0 cJ0_coder_7d493 1) (hq : RetI X p l e (rmD 0) s mi args below meth c cJ0_coder_7d493 .byte Q r mE) {fu : Nat} {i0 : Nat} {m : Mem} {H : Heap} {locs : List Loc} {ls : Array Slot} (h : f_J0_coder_7d493 fu i0 m = some (r, mE)) (g_i0 : i0 < 6) (hW : Wd X s m H locs) (hl : lv_has ls 1 [(0, .ref (adK X i0))]) : W p l e (rmD 0) s mi args below meth c H locs 0 0 Q (F0 mi 0 ls []) := by
  unfold f_J0_coder_7d493 at h
  refine zs_cs C hW w_744 dJ0_coder_7d493_0 ?_
  refine lv_if_eq (tgt := 13) C.1 C.2.1 dJ0_coder_7d493_3 (by decide) (fun hc => absurd hc (by decide)) (fun _ => ?_)
  refine lv_aload_n C.1 C.2.1 dJ0_coder_7d493_6 rfl (lv_at hl 0 rfl) ?_
  refine zs_coder C hW g_i0 w_1463 dJ0_coder_7d493_7 ?_
  refine lv_goto (tgt := 14) C.1 C.2.1 dJ0_coder_7d493_10 (by decide) ?_
  obtain ⟨hb_1, h⟩ := chk_E h
  exact ret_i h hq (isY_E hb_1) hW dJ0_coder_7d493_14
theorem c_J0_coder_7d493 {X : TX} {l : Launch} {fu : Nat} {i0 : Nat} {m mE : Mem} {r : Int32} (h : f_J0_coder_7d493 fu i0 m = some (r, mE)) (g_i0 : i0 < 6) : MetI X l yJ0_coder_7d493 cJ0_coder_7d493 1 .byte 0 [.ref (adK X i0)] m r mE :=
  met_I (by decide) (Nat.le_of_ble_eq_true rfl) (fun p e s mi args below meth c ls Q C hq hW hl => w_J0_coder_7d493 C hq h g_i0 hW (lv_sub hl [0] rfl))
theorem k_J0_coder_7d493 : CalV yJ0_coder_7d493 cJ0_coder_7d493 1 (some .byte) RJ0 0 := ⟨w_741, w_742, w_73, w_743, by decide +kernel⟩
theorem dJ0_length_8abf5_0 : decode cJ0_length_8abf5 0 = .ok (.aload_n 0, 1) := by decide +kernel
theorem dJ0_length_8abf5_1 : decode cJ0_length_8abf5 1 = .ok (.getfield 9, 3) := by decide +kernel
theorem dJ0_length_8abf5_4 : decode cJ0_length_8abf5 4 = .ok (.arraylength, 1) := by decide +kernel
theorem dJ0_length_8abf5_5 : decode cJ0_length_8abf5 5 = .ok (.aload_n 0, 1) := by decide +kernel
theorem dJ0_length_8abf5_6 : decode cJ0_length_8abf5 6 = .ok (.invokevirtual 335, 3) := by decide +kernel
theorem dJ0_length_8abf5_9 : decode cJ0_length_8abf5 9 = .ok (.ishr, 1) := by decide +kernel
theorem dJ0_length_8abf5_10 : decode cJ0_length_8abf5 10 = .ok (.ireturn, 1) := by decide +kernel
def f_J0_length_8abf5 (fu : Nat)  (i0 : Nat) (m : Mem) : Option (Int32 × Mem) := doI (f_J0_coder_7d493 fu i0 m) (fun r_3 m_2 => some (((nI (slen.getD i0 0)) >>> (r_3 &&& 31)), m_2))
set_option maxHeartbeats 4000000 in
set_option maxRecDepth 100000 in
theorem w_J0_length_8abf5 {X : TX} {p : Program} {l : Launch} {e : Env} {s : State} {mi : MethodId} {args : Array Value} {below : List Frame} {meth : Method} {c : Code} {Q : State → Prop} {r : Int32} {mE : Mem} (C : Cx X p s mi args c RJ0 cJ0_length_8abf5 1) (hq : RetI X p l e (rmD 1) s mi args below meth c cJ0_length_8abf5 .int Q r mE) {fu : Nat} {i0 : Nat} {m : Mem} {H : Heap} {locs : List Loc} {ls : Array Slot} (h : f_J0_length_8abf5 fu i0 m = some (r, mE)) (g_i0 : i0 < 6) (hW : Wd X s m H locs) (hl : lv_has ls 1 [(0, .ref (adK X i0))]) : W p l e (rmD 1) s mi args below meth c H locs 0 0 Q (F0 mi 0 ls []) := by
  unfold f_J0_length_8abf5 at h
  refine lv_aload_n C.1 C.2.1 dJ0_length_8abf5_0 rfl (lv_at hl 0 rfl) ?_
  refine zs_value C hW g_i0 w_1462 dJ0_length_8abf5_1 ?_
  refine zs_len C hW g_i0 dJ0_length_8abf5_4 ?_
  refine lv_aload_n C.1 C.2.1 dJ0_length_8abf5_5 rfl (lv_at hl 0 rfl) ?_
  obtain ⟨r_3, m_2, hc_1, h⟩ := doI_E h
  refine zr_cVI C hW (c_J0_coder_7d493 (i0 := i0) hc_1 g_i0) k_J0_coder_7d493 (zs_recv C hW g_i0) w_740 ⟨Nat.le_of_ble_eq_true rfl, Nat.le_of_ble_eq_true rfl⟩ ⟨Nat.le_refl 0, Nat.le_refl 0⟩ rfl hl.1 rfl (Nat.le_of_ble_eq_true rfl) dJ0_length_8abf5_6 (fun H locs hW => ?_)
  refine lv_ishr C.1 C.2.1 dJ0_length_8abf5_9 ?_
  exact ret_i h hq rfl hW dJ0_length_8abf5_10
theorem c_J0_length_8abf5 {X : TX} {l : Launch} {fu : Nat} {i0 : Nat} {m mE : Mem} {r : Int32} (h : f_J0_length_8abf5 fu i0 m = some (r, mE)) (g_i0 : i0 < 6) : MetI X l yJ0_length_8abf5 cJ0_length_8abf5 1 .int 1 [.ref (adK X i0)] m r mE :=
  met_I (by decide) (Nat.le_of_ble_eq_true rfl) (fun p e s mi args below meth c ls Q C hq hW hl => w_J0_length_8abf5 C hq h g_i0 hW (lv_sub hl [0] rfl))
theorem k_J0_length_8abf5 : CalV yJ0_length_8abf5 cJ0_length_8abf5 1 (some .int) RJ0 0 := ⟨w_737, w_738, w_73, w_739, by decide +kernel⟩
theorem dJ0_isLatin1_aae02_0 : decode cJ0_isLatin1_aae02 0 = .ok (.getstatic 38, 3) := by decide +kernel
theorem dJ0_isLatin1_aae02_3 : decode cJ0_isLatin1_aae02 3 = .ok (.ifCond .eq 14, 3) := by decide +kernel
theorem dJ0_isLatin1_aae02_6 : decode cJ0_isLatin1_aae02 6 = .ok (.aload_n 0, 1) := by decide +kernel
theorem dJ0_isLatin1_aae02_7 : decode cJ0_isLatin1_aae02 7 = .ok (.getfield 15, 3) := by decide +kernel
theorem dJ0_isLatin1_aae02_10 : decode cJ0_isLatin1_aae02 10 = .ok (.ifCond .ne 7, 3) := by decide +kernel
theorem dJ0_isLatin1_aae02_13 : decode cJ0_isLatin1_aae02 13 = .ok (.iconst 1, 1) := by decide +kernel
theorem dJ0_isLatin1_aae02_14 : decode cJ0_isLatin1_aae02 14 = .ok (.goto 4, 3) := by decide +kernel
theorem dJ0_isLatin1_aae02_17 : decode cJ0_isLatin1_aae02 17 = .ok (.iconst 0, 1) := by decide +kernel
theorem dJ0_isLatin1_aae02_18 : decode cJ0_isLatin1_aae02 18 = .ok (.ireturn, 1) := by decide +kernel
def f_J0_isLatin1_aae02 (fu : Nat)  (i0 : Nat) (m : Mem) : Option (Int32 × Mem) := some (1, m)
set_option maxHeartbeats 4000000 in
set_option maxRecDepth 100000 in
theorem w_J0_isLatin1_aae02 {X : TX} {p : Program} {l : Launch} {e : Env} {s : State} {mi : MethodId} {args : Array Value} {below : List Frame} {meth : Method} {c : Code} {Q : State → Prop} {r : Int32} {mE : Mem} (C : Cx X p s mi args c RJ0 cJ0_isLatin1_aae02 1) (hq : RetI X p l e (rmD 0) s mi args below meth c cJ0_isLatin1_aae02 .boolean Q r mE) {fu : Nat} {i0 : Nat} {m : Mem} {H : Heap} {locs : List Loc} {ls : Array Slot} (h : f_J0_isLatin1_aae02 fu i0 m = some (r, mE)) (g_i0 : i0 < 6) (hW : Wd X s m H locs) (hl : lv_has ls 1 [(0, .ref (adK X i0))]) : W p l e (rmD 0) s mi args below meth c H locs 0 0 Q (F0 mi 0 ls []) := by
  unfold f_J0_isLatin1_aae02 at h
  refine zs_cs C hW w_744 dJ0_isLatin1_aae02_0 ?_
  refine lv_if_eq (tgt := 17) C.1 C.2.1 dJ0_isLatin1_aae02_3 (by decide) (fun hc => absurd hc (by decide)) (fun _ => ?_)
  refine lv_aload_n C.1 C.2.1 dJ0_isLatin1_aae02_6 rfl (lv_at hl 0 rfl) ?_
  refine zs_coder C hW g_i0 w_1463 dJ0_isLatin1_aae02_7 ?_
  refine lv_if_ne (tgt := 17) C.1 C.2.1 dJ0_isLatin1_aae02_10 (by decide) (fun hc => absurd hc (by decide)) (fun _ => ?_)
  refine lv_iconst (v := 1) C.1 C.2.1 dJ0_isLatin1_aae02_13 rfl ?_
  refine lv_goto (tgt := 18) C.1 C.2.1 dJ0_isLatin1_aae02_14 (by decide) ?_
  exact ret_i h hq rfl hW dJ0_isLatin1_aae02_18
theorem c_J0_isLatin1_aae02 {X : TX} {l : Launch} {fu : Nat} {i0 : Nat} {m mE : Mem} {r : Int32} (h : f_J0_isLatin1_aae02 fu i0 m = some (r, mE)) (g_i0 : i0 < 6) : MetI X l yJ0_isLatin1_aae02 cJ0_isLatin1_aae02 1 .boolean 0 [.ref (adK X i0)] m r mE :=
  met_I (by decide) (Nat.le_of_ble_eq_true rfl) (fun p e s mi args below meth c ls Q C hq hW hl => w_J0_isLatin1_aae02 C hq h g_i0 hW (lv_sub hl [0] rfl))
theorem k_J0_isLatin1_aae02 : CalV yJ0_isLatin1_aae02 cJ0_isLatin1_aae02 1 (some .boolean) RJ0 0 := ⟨w_751, w_752, w_73, w_753, by decide +kernel⟩
theorem dJ3_checkIndex_8e157_0 : decode cJ3_checkIndex_8e157 0 = .ok (.iload_n 0, 1) := by decide +kernel
theorem dJ3_checkIndex_8e157_1 : decode cJ3_checkIndex_8e157 1 = .ok (.ifCond .lt 8, 3) := by decide +kernel
theorem dJ3_checkIndex_8e157_4 : decode cJ3_checkIndex_8e157 4 = .ok (.iload_n 0, 1) := by decide +kernel
theorem dJ3_checkIndex_8e157_5 : decode cJ3_checkIndex_8e157 5 = .ok (.iload_n 1, 1) := by decide +kernel
theorem dJ3_checkIndex_8e157_6 : decode cJ3_checkIndex_8e157 6 = .ok (.if_icmp .lt 10, 3) := by decide +kernel
theorem dJ3_checkIndex_8e157_9 : decode cJ3_checkIndex_8e157 9 = .ok (.aload_n 2, 1) := by decide +kernel
theorem dJ3_checkIndex_8e157_16 : decode cJ3_checkIndex_8e157 16 = .ok (.iload_n 0, 1) := by decide +kernel
theorem dJ3_checkIndex_8e157_17 : decode cJ3_checkIndex_8e157 17 = .ok (.ireturn, 1) := by decide +kernel
def f_J3_checkIndex_8e157_9 (fu : Nat)   (m : Mem) : Option (Int32 × Mem) := none
set_option maxHeartbeats 4000000 in
set_option maxRecDepth 100000 in
theorem w_J3_checkIndex_8e157_9 {X : TX} {p : Program} {l : Launch} {e : Env} {s : State} {mi : MethodId} {args : Array Value} {below : List Frame} {meth : Method} {c : Code} {Q : State → Prop} {r : Int32} {mE : Mem} (C : Cx X p s mi args c RJ3 cJ3_checkIndex_8e157 3) (hq : RetI X p l e (rmD 0) s mi args below meth c cJ3_checkIndex_8e157 .int Q r mE) {fu : Nat}  {m : Mem} {H : Heap} {locs : List Loc} {ls : Array Slot} (h : f_J3_checkIndex_8e157_9 fu  m = some (r, mE))  (hW : Wd X s m H locs) (hl : lv_has ls 3 []) : W p l e (rmD 0) s mi args below meth c H locs 0 0 Q (F0 mi 9 ls []) := by
  unfold f_J3_checkIndex_8e157_9 at h
  cases h
def f_J3_checkIndex_8e157 (fu : Nat)  (x0 : Int32) (x1 : Int32) (m : Mem) : Option (Int32 × Mem) := if x0 < 0 then (f_J3_checkIndex_8e157_9 fu m) else (if x0 < x1 then (some (x0, m)) else (f_J3_checkIndex_8e157_9 fu m))
set_option maxHeartbeats 4000000 in
set_option maxRecDepth 100000 in
theorem w_J3_checkIndex_8e157 {X : TX} {p : Program} {l : Launch} {e : Env} {s : State} {mi : MethodId} {args : Array Value} {below : List Frame} {meth : Method} {c : Code} {Q : State → Prop} {r : Int32} {mE : Mem} (C : Cx X p s mi args c RJ3 cJ3_checkIndex_8e157 3) (hq : RetI X p l e (rmD 0) s mi args below meth c cJ3_checkIndex_8e157 .int Q r mE) {fu : Nat} {x0 : Int32} {x1 : Int32} {m : Mem} {H : Heap} {locs : List Loc} {ls : Array Slot} (h : f_J3_checkIndex_8e157 fu x0 x1 m = some (r, mE))  (hW : Wd X s m H locs) (hl : lv_has ls 3 [(0, .int x0), (1, .int x1)]) : W p l e (rmD 0) s mi args below meth c H locs 0 0 Q (F0 mi 0 ls []) := by
  unfold f_J3_checkIndex_8e157 at h
  refine lv_iload_n C.1 C.2.1 dJ3_checkIndex_8e157_0 rfl (lv_at hl 0 rfl) ?_
  refine lv_if_lt (tgt := 9) C.1 C.2.1 dJ3_checkIndex_8e157_1 (by decide) (fun hc_2 => ?_) (fun hc_2 => ?_)
  · have h := ite_t hc_2 h
    exact w_J3_checkIndex_8e157_9 C hq  h  hW (lv_sub hl [] rfl)
  · have h := ite_f hc_2 h
    refine lv_iload_n C.1 C.2.1 dJ3_checkIndex_8e157_4 rfl (lv_at hl 0 rfl) ?_
    refine lv_iload_n C.1 C.2.1 dJ3_checkIndex_8e157_5 rfl (lv_at hl 1 rfl) ?_
    refine lv_icmp_lt (tgt := 16) C.1 C.2.1 dJ3_checkIndex_8e157_6 (by decide) (fun hc_1 => ?_) (fun hc_1 => ?_)
    · have h := ite_t hc_1 h
      refine lv_iload_n C.1 C.2.1 dJ3_checkIndex_8e157_16 rfl (lv_at hl 0 rfl) ?_
      exact ret_i h hq rfl hW dJ3_checkIndex_8e157_17
    · have h := ite_f hc_1 h
      exact w_J3_checkIndex_8e157_9 C hq  h  hW (lv_sub hl [] rfl)
theorem c_J3_checkIndex_8e157 {X : TX} {l : Launch} {fu : Nat} {x0 : Int32} {x1 : Int32} {o2 : Value} {m mE : Mem} {r : Int32} (h : f_J3_checkIndex_8e157 fu x0 x1 m = some (r, mE))  (ho2 : o2.category = 1) : MetI X l yJ3_checkIndex_8e157 cJ3_checkIndex_8e157 3 .int 0 [.int x0, .int x1, o2] m r mE :=
  met_I (by decide) (lg_len3 ho2) (fun p e s mi args below meth c ls Q C hq hW hl => w_J3_checkIndex_8e157 C hq h  hW (lv_sub hl [0, 1] rfl))
theorem k_J3_checkIndex_8e157 : CalS yJ3_checkIndex_8e157 cJ3_checkIndex_8e157 3 (some .int) 3 := ⟨w_763, w_75, w_764, by decide +kernel⟩
theorem dJ0_checkIndex_df160_0 : decode cJ0_checkIndex_df160 0 = .ok (.iload_n 0, 1) := by decide +kernel
theorem dJ0_checkIndex_df160_1 : decode cJ0_checkIndex_df160 1 = .ok (.iload_n 1, 1) := by decide +kernel
theorem dJ0_checkIndex_df160_2 : decode cJ0_checkIndex_df160 2 = .ok (.getstatic 1053, 3) := by decide +kernel
theorem dJ0_checkIndex_df160_5 : decode cJ0_checkIndex_df160 5 = .ok (.invokestatic 1059, 3) := by decide +kernel
theorem dJ0_checkIndex_df160_8 : decode cJ0_checkIndex_df160 8 = .ok (.pop, 1) := by decide +kernel
theorem dJ0_checkIndex_df160_9 : decode cJ0_checkIndex_df160 9 = .ok (.return_, 1) := by decide +kernel
def f_J0_checkIndex_df160 (fu : Nat)  (x0 : Int32) (x1 : Int32) (m : Mem) : Option Mem := doI (f_J3_checkIndex_8e157 fu x0 x1 m) (fun r_4 m_3 => some m_3)
set_option maxHeartbeats 4000000 in
set_option maxRecDepth 100000 in
theorem w_J0_checkIndex_df160 {X : TX} {p : Program} {l : Launch} {e : Env} {s : State} {mi : MethodId} {args : Array Value} {below : List Frame} {meth : Method} {c : Code} {Q : State → Prop} {mE : Mem} (C : Cx X p s mi args c RJ0 cJ0_checkIndex_df160 2) (hq : RetV X p l e (rmD 1) s mi args below meth c cJ0_checkIndex_df160 Q mE) {fu : Nat} {x0 : Int32} {x1 : Int32} {m : Mem} {H : Heap} {locs : List Loc} {ls : Array Slot} (h : f_J0_checkIndex_df160 fu x0 x1 m = some mE)  (hW : Wd X s m H locs) (hl : lv_has ls 2 [(0, .int x0), (1, .int x1)]) : W p l e (rmD 1) s mi args below meth c H locs 0 0 Q (F0 mi 0 ls []) := by
  unfold f_J0_checkIndex_df160 at h
  refine lv_iload_n C.1 C.2.1 dJ0_checkIndex_df160_0 rfl (lv_at hl 0 rfl) ?_
  refine lv_iload_n C.1 C.2.1 dJ0_checkIndex_df160_1 rfl (lv_at hl 1 rfl) ?_
  refine zs_sio C hW w_760 dJ0_checkIndex_df160_2 (fun o_1 ho_1 => ?_)
  obtain ⟨r_4, m_3, hc_2, h⟩ := doI_E h
  refine zr_cSI C hW (c_J3_checkIndex_8e157 (x0 := x0) (x1 := x1) (o2 := o_1) hc_2 ho_1) k_J3_checkIndex_8e157 w_762 ⟨Nat.le_of_ble_eq_true rfl, Nat.le_of_ble_eq_true rfl⟩ ⟨Nat.le_refl 0, Nat.le_refl 0⟩ rfl hl.1 rfl (Nat.le_of_ble_eq_true rfl) dJ0_checkIndex_df160_5 (fun H locs hW => ?_)
  refine lv_pop C.1 C.2.1 dJ0_checkIndex_df160_8 rfl ?_
  exact ret_v h hq hW dJ0_checkIndex_df160_9
theorem c_J0_checkIndex_df160 {X : TX} {l : Launch} {fu : Nat} {x0 : Int32} {x1 : Int32} {m mE : Mem} (h : f_J0_checkIndex_df160 fu x0 x1 m = some mE)  : MetV X l yJ0_checkIndex_df160 cJ0_checkIndex_df160 2 1 [.int x0, .int x1] m mE :=
  met_V (by decide) (Nat.le_of_ble_eq_true rfl) (fun p e s mi args below meth c ls Q C hq hW hl => w_J0_checkIndex_df160 C hq h  hW (lv_sub hl [0, 1] rfl))
theorem k_J0_checkIndex_df160 : CalS yJ0_checkIndex_df160 cJ0_checkIndex_df160 2 none 2 := ⟨w_758, w_73, w_759, by decide +kernel⟩
theorem dJ1_charAt_3b067_0 : decode cJ1_charAt_3b067 0 = .ok (.iload_n 1, 1) := by decide +kernel
theorem dJ1_charAt_3b067_1 : decode cJ1_charAt_3b067 1 = .ok (.aload_n 0, 1) := by decide +kernel
theorem dJ1_charAt_3b067_2 : decode cJ1_charAt_3b067 2 = .ok (.arraylength, 1) := by decide +kernel
theorem dJ1_charAt_3b067_3 : decode cJ1_charAt_3b067 3 = .ok (.invokestatic 9, 3) := by decide +kernel
theorem dJ1_charAt_3b067_6 : decode cJ1_charAt_3b067 6 = .ok (.aload_n 0, 1) := by decide +kernel
theorem dJ1_charAt_3b067_7 : decode cJ1_charAt_3b067 7 = .ok (.iload_n 1, 1) := by decide +kernel
theorem dJ1_charAt_3b067_8 : decode cJ1_charAt_3b067 8 = .ok (.baload, 1) := by decide +kernel
theorem dJ1_charAt_3b067_9 : decode cJ1_charAt_3b067 9 = .ok (.sipush 255, 3) := by decide +kernel
theorem dJ1_charAt_3b067_12 : decode cJ1_charAt_3b067 12 = .ok (.iand, 1) := by decide +kernel
theorem dJ1_charAt_3b067_13 : decode cJ1_charAt_3b067 13 = .ok (.i2c, 1) := by decide +kernel
theorem dJ1_charAt_3b067_14 : decode cJ1_charAt_3b067 14 = .ok (.ireturn, 1) := by decide +kernel
def f_J1_charAt_3b067 (fu : Nat)  (i0 : Nat) (x1 : Int32) (m : Mem) : Option (Int32 × Mem) := doV (f_J0_checkIndex_df160 fu x1 (nI (slen.getD i0 0)) m) (fun m_2 => chk (inb x1 (slen.getD i0 0)) (chk (isC (((((sbyt.getD i0 []).getD x1.toNatClampNeg 0) &&& 255).toUInt32 % 65536).toInt32)) (some ((((((sbyt.getD i0 []).getD x1.toNatClampNeg 0) &&& 255).toUInt32 % 65536).toInt32), m_2))))
set_option maxHeartbeats 4000000 in
set_option maxRecDepth 100000 in
theorem w_J1_charAt_3b067 {X : TX} {p : Program} {l : Launch} {e : Env} {s : State} {mi : MethodId} {args : Array Value} {below : List Frame} {meth : Method} {c : Code} {Q : State → Prop} {r : Int32} {mE : Mem} (C : Cx X p s mi args c RJ1 cJ1_charAt_3b067 2) (hq : RetI X p l e (rmD 2) s mi args below meth c cJ1_charAt_3b067 .char Q r mE) {fu : Nat} {i0 : Nat} {x1 : Int32} {m : Mem} {H : Heap} {locs : List Loc} {ls : Array Slot} (h : f_J1_charAt_3b067 fu i0 x1 m = some (r, mE)) (g_i0 : i0 < 6) (hW : Wd X s m H locs) (hl : lv_has ls 2 [(0, .ref (adV X i0)), (1, .int x1)]) : W p l e (rmD 2) s mi args below meth c H locs 0 0 Q (F0 mi 0 ls []) := by
  unfold f_J1_charAt_3b067 at h
  refine lv_iload_n C.1 C.2.1 dJ1_charAt_3b067_0 rfl (lv_at hl 1 rfl) ?_
  refine lv_aload_n C.1 C.2.1 dJ1_charAt_3b067_1 rfl (lv_at hl 0 rfl) ?_
  refine zs_len C hW g_i0 dJ1_charAt_3b067_2 ?_
  obtain ⟨m_2, hc_1, h⟩ := doV_E h
  refine zr_cSV C hW (c_J0_checkIndex_df160 (x0 := x1) (x1 := (nI (slen.getD i0 0))) hc_1 ) k_J0_checkIndex_df160 w_757 ⟨Nat.le_of_ble_eq_true rfl, Nat.le_of_ble_eq_true rfl⟩ ⟨Nat.le_refl 0, Nat.le_refl 0⟩ rfl hl.1 rfl (Nat.le_of_ble_eq_true rfl) dJ1_charAt_3b067_3 (fun H locs hW => ?_)
  refine lv_aload_n C.1 C.2.1 dJ1_charAt_3b067_6 rfl (lv_at hl 0 rfl) ?_
  refine lv_iload_n C.1 C.2.1 dJ1_charAt_3b067_7 rfl (lv_at hl 1 rfl) ?_
  obtain ⟨hb_3, h⟩ := chk_E h
  refine zs_ald C hW g_i0 (inb_E hb_3) dJ1_charAt_3b067_8 ?_
  refine lv_sipush (v := 255) C.1 C.2.1 dJ1_charAt_3b067_9 rfl ?_
  refine lv_iand C.1 C.2.1 dJ1_charAt_3b067_12 ?_
  refine lv_i2c (v := (((((sbyt.getD i0 []).getD x1.toNatClampNeg 0) &&& 255).toUInt32 % 65536).toInt32)) C.1 C.2.1 dJ1_charAt_3b067_13 rfl ?_
  obtain ⟨hb_4, h⟩ := chk_E h
  exact ret_i h hq (isC_E hb_4) hW dJ1_charAt_3b067_14
theorem c_J1_charAt_3b067 {X : TX} {l : Launch} {fu : Nat} {i0 : Nat} {x1 : Int32} {m mE : Mem} {r : Int32} (h : f_J1_charAt_3b067 fu i0 x1 m = some (r, mE)) (g_i0 : i0 < 6) : MetI X l yJ1_charAt_3b067 cJ1_charAt_3b067 2 .char 2 [.ref (adV X i0), .int x1] m r mE :=
  met_I (by decide) (Nat.le_of_ble_eq_true rfl) (fun p e s mi args below meth c ls Q C hq hW hl => w_J1_charAt_3b067 C hq h g_i0 hW (lv_sub hl [0, 1] rfl))
theorem k_J1_charAt_3b067 : CalS yJ1_charAt_3b067 cJ1_charAt_3b067 2 (some .char) 2 := ⟨w_755, w_74, w_756, by decide +kernel⟩
theorem dJ0_charAt_5068e_0 : decode cJ0_charAt_5068e 0 = .ok (.aload_n 0, 1) := by decide +kernel
theorem dJ0_charAt_5068e_1 : decode cJ0_charAt_5068e 1 = .ok (.invokevirtual 492, 3) := by decide +kernel
theorem dJ0_charAt_5068e_4 : decode cJ0_charAt_5068e 4 = .ok (.ifCond .eq 12, 3) := by decide +kernel
theorem dJ0_charAt_5068e_7 : decode cJ0_charAt_5068e 7 = .ok (.aload_n 0, 1) := by decide +kernel
theorem dJ0_charAt_5068e_8 : decode cJ0_charAt_5068e 8 = .ok (.getfield 9, 3) := by decide +kernel
theorem dJ0_charAt_5068e_11 : decode cJ0_charAt_5068e 11 = .ok (.iload_n 1, 1) := by decide +kernel
theorem dJ0_charAt_5068e_12 : decode cJ0_charAt_5068e 12 = .ok (.invokestatic 495, 3) := by decide +kernel
theorem dJ0_charAt_5068e_15 : decode cJ0_charAt_5068e 15 = .ok (.ireturn, 1) := by decide +kernel
theorem dJ0_charAt_5068e_16 : decode cJ0_charAt_5068e 16 = .ok (.aload_n 0, 1) := by decide +kernel
def f_J0_charAt_5068e (fu : Nat)  (i0 : Nat) (x1 : Int32) (m : Mem) : Option (Int32 × Mem) := doI (f_J0_isLatin1_aae02 fu i0 m) (fun r_3 m_2 => if r_3 = 0 then (none) else (doI (f_J1_charAt_3b067 fu i0 x1 m_2) (fun r_6 m_5 => chk (isC r_6) (some (r_6, m_5)))))
set_option maxHeartbeats 4000000 in
set_option maxRecDepth 100000 in
theorem w_J0_charAt_5068e {X : TX} {p : Program} {l : Launch} {e : Env} {s : State} {mi : MethodId} {args : Array Value} {below : List Frame} {meth : Method} {c : Code} {Q : State → Prop} {r : Int32} {mE : Mem} (C : Cx X p s mi args c RJ0 cJ0_charAt_5068e 2) (hq : RetI X p l e (rmD 3) s mi args below meth c cJ0_charAt_5068e .char Q r mE) {fu : Nat} {i0 : Nat} {x1 : Int32} {m : Mem} {H : Heap} {locs : List Loc} {ls : Array Slot} (h : f_J0_charAt_5068e fu i0 x1 m = some (r, mE)) (g_i0 : i0 < 6) (hW : Wd X s m H locs) (hl : lv_has ls 2 [(0, .ref (adK X i0)), (1, .int x1)]) : W p l e (rmD 3) s mi args below meth c H locs 0 0 Q (F0 mi 0 ls []) := by
  unfold f_J0_charAt_5068e at h
  refine lv_aload_n C.1 C.2.1 dJ0_charAt_5068e_0 rfl (lv_at hl 0 rfl) ?_
  obtain ⟨r_3, m_2, hc_1, h⟩ := doI_E h
  refine zr_cVI C hW (c_J0_isLatin1_aae02 (i0 := i0) hc_1 g_i0) k_J0_isLatin1_aae02 (zs_recv C hW g_i0) w_750 ⟨Nat.le_of_ble_eq_true rfl, Nat.le_of_ble_eq_true rfl⟩ ⟨Nat.le_refl 0, Nat.le_refl 0⟩ rfl hl.1 rfl (Nat.le_of_ble_eq_true rfl) dJ0_charAt_5068e_1 (fun H locs hW => ?_)
  refine lv_if_eq (tgt := 16) C.1 C.2.1 dJ0_charAt_5068e_4 (by decide) (fun hc_8 => ?_) (fun hc_8 => ?_)
  · have h := ite_t hc_8 h
    cases h
  · have h := ite_f hc_8 h
    refine lv_aload_n C.1 C.2.1 dJ0_charAt_5068e_7 rfl (lv_at hl 0 rfl) ?_
    refine zs_value C hW g_i0 w_1462 dJ0_charAt_5068e_8 ?_
    refine lv_iload_n C.1 C.2.1 dJ0_charAt_5068e_11 rfl (lv_at hl 1 rfl) ?_
    obtain ⟨r_6, m_5, hc_4, h⟩ := doI_E h
    refine zr_cSI C hW (c_J1_charAt_3b067 (i0 := i0) (x1 := x1) hc_4 g_i0) k_J1_charAt_3b067 w_754 ⟨Nat.le_of_ble_eq_true rfl, Nat.le_of_ble_eq_true rfl⟩ ⟨Nat.le_refl 0, Nat.le_refl 0⟩ rfl hl.1 rfl (Nat.le_of_ble_eq_true rfl) dJ0_charAt_5068e_12 (fun H locs hW => ?_)
    obtain ⟨hb_7, h⟩ := chk_E h
    exact ret_i h hq (isC_E hb_7) hW dJ0_charAt_5068e_15
theorem c_J0_charAt_5068e {X : TX} {l : Launch} {fu : Nat} {i0 : Nat} {x1 : Int32} {m mE : Mem} {r : Int32} (h : f_J0_charAt_5068e fu i0 x1 m = some (r, mE)) (g_i0 : i0 < 6) : MetI X l yJ0_charAt_5068e cJ0_charAt_5068e 2 .char 3 [.ref (adK X i0), .int x1] m r mE :=
  met_I (by decide) (Nat.le_of_ble_eq_true rfl) (fun p e s mi args below meth c ls Q C hq hW hl => w_J0_charAt_5068e C hq h g_i0 hW (lv_sub hl [0, 1] rfl))
theorem k_J0_charAt_5068e : CalV yJ0_charAt_5068e cJ0_charAt_5068e 2 (some .char) RJ0 1 := ⟨w_747, w_748, w_73, w_749, by decide +kernel⟩
theorem dJ1_canEncode_9a6ad_0 : decode cJ1_canEncode_9a6ad 0 = .ok (.iload_n 0, 1) := by decide +kernel
theorem dJ1_canEncode_9a6ad_1 : decode cJ1_canEncode_9a6ad 1 = .ok (.ifCond .lt 14, 3) := by decide +kernel
theorem dJ1_canEncode_9a6ad_4 : decode cJ1_canEncode_9a6ad 4 = .ok (.iload_n 0, 1) := by decide +kernel
theorem dJ1_canEncode_9a6ad_5 : decode cJ1_canEncode_9a6ad 5 = .ok (.sipush 255, 3) := by decide +kernel
theorem dJ1_canEncode_9a6ad_8 : decode cJ1_canEncode_9a6ad 8 = .ok (.if_icmp .gt 7, 3) := by decide +kernel
theorem dJ1_canEncode_9a6ad_11 : decode cJ1_canEncode_9a6ad 11 = .ok (.iconst 1, 1) := by decide +kernel
theorem dJ1_canEncode_9a6ad_12 : decode cJ1_canEncode_9a6ad 12 = .ok (.goto 4, 3) := by decide +kernel
theorem dJ1_canEncode_9a6ad_15 : decode cJ1_canEncode_9a6ad 15 = .ok (.iconst 0, 1) := by decide +kernel
theorem dJ1_canEncode_9a6ad_16 : decode cJ1_canEncode_9a6ad 16 = .ok (.ireturn, 1) := by decide +kernel
def f_J1_canEncode_9a6ad (fu : Nat)  (x0 : Int32) (m : Mem) : Option (Int32 × Mem) := if x0 < 0 then (some (0, m)) else (if 255 < x0 then (some (0, m)) else (some (1, m)))
set_option maxHeartbeats 4000000 in
set_option maxRecDepth 100000 in
theorem w_J1_canEncode_9a6ad {X : TX} {p : Program} {l : Launch} {e : Env} {s : State} {mi : MethodId} {args : Array Value} {below : List Frame} {meth : Method} {c : Code} {Q : State → Prop} {r : Int32} {mE : Mem} (C : Cx X p s mi args c RJ1 cJ1_canEncode_9a6ad 1) (hq : RetI X p l e (rmD 0) s mi args below meth c cJ1_canEncode_9a6ad .boolean Q r mE) {fu : Nat} {x0 : Int32} {m : Mem} {H : Heap} {locs : List Loc} {ls : Array Slot} (h : f_J1_canEncode_9a6ad fu x0 m = some (r, mE))  (hW : Wd X s m H locs) (hl : lv_has ls 1 [(0, .int x0)]) : W p l e (rmD 0) s mi args below meth c H locs 0 0 Q (F0 mi 0 ls []) := by
  unfold f_J1_canEncode_9a6ad at h
  refine lv_iload_n C.1 C.2.1 dJ1_canEncode_9a6ad_0 rfl (lv_at hl 0 rfl) ?_
  refine lv_if_lt (tgt := 15) C.1 C.2.1 dJ1_canEncode_9a6ad_1 (by decide) (fun hc_2 => ?_) (fun hc_2 => ?_)
  · have h := ite_t hc_2 h
    refine lv_iconst (v := 0) C.1 C.2.1 dJ1_canEncode_9a6ad_15 rfl ?_
    exact ret_i h hq rfl hW dJ1_canEncode_9a6ad_16
  · have h := ite_f hc_2 h
    refine lv_iload_n C.1 C.2.1 dJ1_canEncode_9a6ad_4 rfl (lv_at hl 0 rfl) ?_
    refine lv_sipush (v := 255) C.1 C.2.1 dJ1_canEncode_9a6ad_5 rfl ?_
    refine lv_icmp_gt (tgt := 15) C.1 C.2.1 dJ1_canEncode_9a6ad_8 (by decide) (fun hc_1 => ?_) (fun hc_1 => ?_)
    · have h := ite_t hc_1 h
      refine lv_iconst (v := 0) C.1 C.2.1 dJ1_canEncode_9a6ad_15 rfl ?_
      exact ret_i h hq rfl hW dJ1_canEncode_9a6ad_16
    · have h := ite_f hc_1 h
      refine lv_iconst (v := 1) C.1 C.2.1 dJ1_canEncode_9a6ad_11 rfl ?_
      refine lv_goto (tgt := 16) C.1 C.2.1 dJ1_canEncode_9a6ad_12 (by decide) ?_
      exact ret_i h hq rfl hW dJ1_canEncode_9a6ad_16
theorem c_J1_canEncode_9a6ad {X : TX} {l : Launch} {fu : Nat} {x0 : Int32} {m mE : Mem} {r : Int32} (h : f_J1_canEncode_9a6ad fu x0 m = some (r, mE))  : MetI X l yJ1_canEncode_9a6ad cJ1_canEncode_9a6ad 1 .boolean 0 [.int x0] m r mE :=
  met_I (by decide) (Nat.le_of_ble_eq_true rfl) (fun p e s mi args below meth c ls Q C hq hW hl => w_J1_canEncode_9a6ad C hq h  hW (lv_sub hl [0] rfl))
theorem k_J1_canEncode_9a6ad : CalS yJ1_canEncode_9a6ad cJ1_canEncode_9a6ad 1 (some .boolean) 1 := ⟨w_822, w_74, w_823, by decide +kernel⟩
theorem dJ1_indexOfChar_4cfef_0 : decode cJ1_indexOfChar_4cfef 0 = .ok (.iload_n 1, 1) := by decide +kernel
theorem dJ1_indexOfChar_4cfef_1 : decode cJ1_indexOfChar_4cfef 1 = .ok (.i2b, 1) := by decide +kernel
theorem dJ1_indexOfChar_4cfef_2 : decode cJ1_indexOfChar_4cfef 2 = .ok (.istore 4, 2) := by decide +kernel
theorem dJ1_indexOfChar_4cfef_4 : decode cJ1_indexOfChar_4cfef 4 = .ok (.iload_n 2, 1) := by decide +kernel
theorem dJ1_indexOfChar_4cfef_5 : decode cJ1_indexOfChar_4cfef 5 = .ok (.istore 5, 2) := by decide +kernel
theorem dJ1_indexOfChar_4cfef_7 : decode cJ1_indexOfChar_4cfef 7 = .ok (.iload 5, 2) := by decide +kernel
theorem dJ1_indexOfChar_4cfef_9 : decode cJ1_indexOfChar_4cfef 9 = .ok (.iload_n 3, 1) := by decide +kernel
theorem dJ1_indexOfChar_4cfef_10 : decode cJ1_indexOfChar_4cfef 10 = .ok (.if_icmp .ge 21, 3) := by decide +kernel
theorem dJ1_indexOfChar_4cfef_13 : decode cJ1_indexOfChar_4cfef 13 = .ok (.aload_n 0, 1) := by decide +kernel
theorem dJ1_indexOfChar_4cfef_14 : decode cJ1_indexOfChar_4cfef 14 = .ok (.iload 5, 2) := by decide +kernel
theorem dJ1_indexOfChar_4cfef_16 : decode cJ1_indexOfChar_4cfef 16 = .ok (.baload, 1) := by decide +kernel
theorem dJ1_indexOfChar_4cfef_17 : decode cJ1_indexOfChar_4cfef 17 = .ok (.iload 4, 2) := by decide +kernel
theorem dJ1_indexOfChar_4cfef_19 : decode cJ1_indexOfChar_4cfef 19 = .ok (.if_icmp .ne 6, 3) := by decide +kernel
theorem dJ1_indexOfChar_4cfef_22 : decode cJ1_indexOfChar_4cfef 22 = .ok (.iload 5, 2) := by decide +kernel
theorem dJ1_indexOfChar_4cfef_24 : decode cJ1_indexOfChar_4cfef 24 = .ok (.ireturn, 1) := by decide +kernel
theorem dJ1_indexOfChar_4cfef_25 : decode cJ1_indexOfChar_4cfef 25 = .ok (.iinc 5 1, 3) := by decide +kernel
theorem dJ1_indexOfChar_4cfef_28 : decode cJ1_indexOfChar_4cfef 28 = .ok (.goto (-21), 3) := by decide +kernel
theorem dJ1_indexOfChar_4cfef_31 : decode cJ1_indexOfChar_4cfef 31 = .ok (.iconst (-1), 1) := by decide +kernel
theorem dJ1_indexOfChar_4cfef_32 : decode cJ1_indexOfChar_4cfef 32 = .ok (.ireturn, 1) := by decide +kernel
def f_J1_indexOfChar_4cfef_7 (fu : Nat)  : Nat → Nat → Int32 → Int32 → Int32 → Mem → Option (Int32 × Mem)
  | 0, _, _, _, _, _ => none
  | n + 1, i0, x3, x4, x5, m => if x3 ≤ x5 then (some ((-1), m)) else (chk (inb x5 (slen.getD i0 0)) (if ((sbyt.getD i0 []).getD x5.toNatClampNeg 0) = x4 then (some (x5, m)) else (seqM (x5 + 1) (fun x_2 : Int32 => f_J1_indexOfChar_4cfef_7 fu n i0 x3 x4 x_2 m))))
set_option maxHeartbeats 4000000 in
set_option maxRecDepth 100000 in
theorem w_J1_indexOfChar_4cfef_7 {X : TX} {p : Program} {l : Launch} {e : Env} {s : State} {mi : MethodId} {args : Array Value} {below : List Frame} {meth : Method} {c : Code} {Q : State → Prop} {r : Int32} {mE : Mem} (C : Cx X p s mi args c RJ1 cJ1_indexOfChar_4cfef 6) (hq : RetI X p l e (rmD 0) s mi args below meth c cJ1_indexOfChar_4cfef .int Q r mE) {fu : Nat} : ∀ (n : Nat) {i0 : Nat} {x3 : Int32} {x4 : Int32} {x5 : Int32} {m : Mem} {H : Heap} {locs : List Loc} {ls : Array Slot}, f_J1_indexOfChar_4cfef_7 fu n i0 x3 x4 x5 m = some (r, mE) → i0 < 6 → Wd X s m H locs → lv_has ls 6 [(0, .ref (adV X i0)), (3, .int x3), (4, .int x4), (5, .int x5)] → W p l e (rmD 0) s mi args below meth c H locs 0 0 Q (F0 mi 7 ls []) := by
  intro n
  induction n with
  | zero =>
    intro i0 x3 x4 x5 m H locs ls h g_i0 hW hl
    rw [f_J1_indexOfChar_4cfef_7] at h
    cases h
  | succ n ih =>
    intro i0 x3 x4 x5 m H locs ls h g_i0 hW hl
    rw [f_J1_indexOfChar_4cfef_7] at h
    refine lv_iload C.1 C.2.1 dJ1_indexOfChar_4cfef_7 (lv_at hl 3 rfl) ?_
    refine lv_iload_n C.1 C.2.1 dJ1_indexOfChar_4cfef_9 rfl (lv_at hl 1 rfl) ?_
    refine lv_icmp_ge (tgt := 31) C.1 C.2.1 dJ1_indexOfChar_4cfef_10 (by decide) (fun hc_5 => ?_) (fun hc_5 => ?_)
    · have h := ite_t hc_5 h
      refine lv_iconst (v := (-1)) C.1 C.2.1 dJ1_indexOfChar_4cfef_31 rfl ?_
      exact ret_i h hq rfl hW dJ1_indexOfChar_4cfef_32
    · have h := ite_f hc_5 h
      refine lv_aload_n C.1 C.2.1 dJ1_indexOfChar_4cfef_13 rfl (lv_at hl 0 rfl) ?_
      refine lv_iload C.1 C.2.1 dJ1_indexOfChar_4cfef_14 (lv_at hl 3 rfl) ?_
      obtain ⟨hb_1, h⟩ := chk_E h
      refine zs_ald C hW g_i0 (inb_E hb_1) dJ1_indexOfChar_4cfef_16 ?_
      refine lv_iload C.1 C.2.1 dJ1_indexOfChar_4cfef_17 (lv_at hl 2 rfl) ?_
      refine lv_icmp_ne (tgt := 25) C.1 C.2.1 dJ1_indexOfChar_4cfef_19 (by decide) (fun hc_4 => ?_) (fun hc_4 => ?_)
      · have h := ite_f hc_4 h
        obtain ⟨x_2, e_3, h⟩ := seqM_E h
        refine lv_iinc (v := x_2) (lv' := [(5, .int x_2), (0, .ref (adV X i0)), (3, .int x3), (4, .int x4)]) C.1 C.2.1 dJ1_indexOfChar_4cfef_25 hl (k := 3) rfl (by rw [e_3]; rfl) (by decide) rfl (fun ls hl => ?_)
        refine lv_goto (tgt := 7) C.1 C.2.1 dJ1_indexOfChar_4cfef_28 (by decide) ?_
        exact ih h g_i0 hW (lv_sub hl [1, 2, 3, 0] rfl)
      · have h := ite_t hc_4 h
        refine lv_iload C.1 C.2.1 dJ1_indexOfChar_4cfef_22 (lv_at hl 3 rfl) ?_
        exact ret_i h hq rfl hW dJ1_indexOfChar_4cfef_24
def f_J1_indexOfChar_4cfef (fu : Nat)  (i0 : Nat) (x1 : Int32) (x2 : Int32) (x3 : Int32) (m : Mem) : Option (Int32 × Mem) := seqM (x1.toInt8.toInt32) (fun x_1 : Int32 => f_J1_indexOfChar_4cfef_7 fu fu i0 x3 x_1 x2 m)
set_option maxHeartbeats 4000000 in
set_option maxRecDepth 100000 in
theorem w_J1_indexOfChar_4cfef {X : TX} {p : Program} {l : Launch} {e : Env} {s : State} {mi : MethodId} {args : Array Value} {below : List Frame} {meth : Method} {c : Code} {Q : State → Prop} {r : Int32} {mE : Mem} (C : Cx X p s mi args c RJ1 cJ1_indexOfChar_4cfef 6) (hq : RetI X p l e (rmD 0) s mi args below meth c cJ1_indexOfChar_4cfef .int Q r mE) {fu : Nat} {i0 : Nat} {x1 : Int32} {x2 : Int32} {x3 : Int32} {m : Mem} {H : Heap} {locs : List Loc} {ls : Array Slot} (h : f_J1_indexOfChar_4cfef fu i0 x1 x2 x3 m = some (r, mE)) (g_i0 : i0 < 6) (hW : Wd X s m H locs) (hl : lv_has ls 6 [(0, .ref (adV X i0)), (1, .int x1), (2, .int x2), (3, .int x3)]) : W p l e (rmD 0) s mi args below meth c H locs 0 0 Q (F0 mi 0 ls []) := by
  unfold f_J1_indexOfChar_4cfef at h
  refine lv_iload_n C.1 C.2.1 dJ1_indexOfChar_4cfef_0 rfl (lv_at hl 1 rfl) ?_
  refine lv_i2b (v := (x1.toInt8.toInt32)) C.1 C.2.1 dJ1_indexOfChar_4cfef_1 rfl ?_
  obtain ⟨x_1, e_2, h⟩ := seqM_E h
  refine lv_name e_2 ?_
  refine lv_istore (lv' := [(4, .int x_1), (0, .ref (adV X i0)), (1, .int x1), (2, .int x2), (3, .int x3)]) C.1 C.2.1 dJ1_indexOfChar_4cfef_2 hl (by decide) rfl (fun ls hl => ?_)
  refine lv_iload_n C.1 C.2.1 dJ1_indexOfChar_4cfef_4 rfl (lv_at hl 3 rfl) ?_
  refine lv_istore (lv' := [(5, .int x2), (4, .int x_1), (0, .ref (adV X i0)), (1, .int x1), (2, .int x2), (3, .int x3)]) C.1 C.2.1 dJ1_indexOfChar_4cfef_5 hl (by decide) rfl (fun ls hl => ?_)
  exact w_J1_indexOfChar_4cfef_7 C hq  fu h g_i0 hW (lv_sub hl [2, 5, 1, 0] rfl)
theorem c_J1_indexOfChar_4cfef {X : TX} {l : Launch} {fu : Nat} {i0 : Nat} {x1 : Int32} {x2 : Int32} {x3 : Int32} {m mE : Mem} {r : Int32} (h : f_J1_indexOfChar_4cfef fu i0 x1 x2 x3 m = some (r, mE)) (g_i0 : i0 < 6) : MetI X l yJ1_indexOfChar_4cfef cJ1_indexOfChar_4cfef 6 .int 0 [.ref (adV X i0), .int x1, .int x2, .int x3] m r mE :=
  met_I (by decide) (Nat.le_of_ble_eq_true rfl) (fun p e s mi args below meth c ls Q C hq hW hl => w_J1_indexOfChar_4cfef C hq h g_i0 hW (lv_sub hl [0, 1, 2, 3] rfl))
theorem k_J1_indexOfChar_4cfef : CalS yJ1_indexOfChar_4cfef cJ1_indexOfChar_4cfef 6 (some .int) 4 := ⟨w_827, w_74, w_828, by decide +kernel⟩
theorem dJ1_indexOf_4cfef_0 : decode cJ1_indexOf_4cfef 0 = .ok (.iload_n 1, 1) := by decide +kernel
theorem dJ1_indexOf_4cfef_1 : decode cJ1_indexOf_4cfef 1 = .ok (.invokestatic 88, 3) := by decide +kernel
theorem dJ1_indexOf_4cfef_4 : decode cJ1_indexOf_4cfef 4 = .ok (.ifCond .ne 5, 3) := by decide +kernel
theorem dJ1_indexOf_4cfef_7 : decode cJ1_indexOf_4cfef 7 = .ok (.iconst (-1), 1) := by decide +kernel
theorem dJ1_indexOf_4cfef_8 : decode cJ1_indexOf_4cfef 8 = .ok (.ireturn, 1) := by decide +kernel
theorem dJ1_indexOf_4cfef_9 : decode cJ1_indexOf_4cfef 9 = .ok (.iload_n 2, 1) := by decide +kernel
theorem dJ1_indexOf_4cfef_10 : decode cJ1_indexOf_4cfef 10 = .ok (.iconst 0, 1) := by decide +kernel
theorem dJ1_indexOf_4cfef_11 : decode cJ1_indexOf_4cfef 11 = .ok (.invokestatic 92, 3) := by decide +kernel
theorem dJ1_indexOf_4cfef_14 : decode cJ1_indexOf_4cfef 14 = .ok (.istore_n 2, 1) := by decide +kernel
theorem dJ1_indexOf_4cfef_15 : decode cJ1_indexOf_4cfef 15 = .ok (.iload_n 3, 1) := by decide +kernel
theorem dJ1_indexOf_4cfef_16 : decode cJ1_indexOf_4cfef 16 = .ok (.aload_n 0, 1) := by decide +kernel
theorem dJ1_indexOf_4cfef_17 : decode cJ1_indexOf_4cfef 17 = .ok (.arraylength, 1) := by decide +kernel
theorem dJ1_indexOf_4cfef_18 : decode cJ1_indexOf_4cfef 18 = .ok (.invokestatic 38, 3) := by decide +kernel
theorem dJ1_indexOf_4cfef_21 : decode cJ1_indexOf_4cfef 21 = .ok (.istore_n 3, 1) := by decide +kernel
theorem dJ1_indexOf_4cfef_22 : decode cJ1_indexOf_4cfef 22 = .ok (.iload_n 2, 1) := by decide +kernel
theorem dJ1_indexOf_4cfef_23 : decode cJ1_indexOf_4cfef 23 = .ok (.iload_n 3, 1) := by decide +kernel
theorem dJ1_indexOf_4cfef_24 : decode cJ1_indexOf_4cfef 24 = .ok (.if_icmp .lt 5, 3) := by decide +kernel
theorem dJ1_indexOf_4cfef_27 : decode cJ1_indexOf_4cfef 27 = .ok (.iconst (-1), 1) := by decide +kernel
theorem dJ1_indexOf_4cfef_28 : decode cJ1_indexOf_4cfef 28 = .ok (.ireturn, 1) := by decide +kernel
theorem dJ1_indexOf_4cfef_29 : decode cJ1_indexOf_4cfef 29 = .ok (.aload_n 0, 1) := by decide +kernel
theorem dJ1_indexOf_4cfef_30 : decode cJ1_indexOf_4cfef 30 = .ok (.iload_n 1, 1) := by decide +kernel
theorem dJ1_indexOf_4cfef_31 : decode cJ1_indexOf_4cfef 31 = .ok (.iload_n 2, 1) := by decide +kernel
theorem dJ1_indexOf_4cfef_32 : decode cJ1_indexOf_4cfef 32 = .ok (.iload_n 3, 1) := by decide +kernel
theorem dJ1_indexOf_4cfef_33 : decode cJ1_indexOf_4cfef 33 = .ok (.invokestatic 95, 3) := by decide +kernel
theorem dJ1_indexOf_4cfef_36 : decode cJ1_indexOf_4cfef 36 = .ok (.ireturn, 1) := by decide +kernel
def f_J1_indexOf_4cfef (fu : Nat)  (i0 : Nat) (x1 : Int32) (x2 : Int32) (x3 : Int32) (m : Mem) : Option (Int32 × Mem) := doI (f_J1_canEncode_9a6ad fu x1 m) (fun r_3 m_2 => if r_3 = 0 then (some ((-1), m_2)) else (seqM (if x2 < 0 then 0 else x2) (fun x_4 : Int32 => seqM (if (nI (slen.getD i0 0)) < x3 then (nI (slen.getD i0 0)) else x3) (fun x_6 : Int32 => if x_4 < x_6 then (doI (f_J1_indexOfChar_4cfef fu i0 x1 x_4 x_6 m_2) (fun r_10 m_9 => some (r_10, m_9))) else (some ((-1), m_2))))))
set_option maxHeartbeats 4000000 in
set_option maxRecDepth 100000 in
theorem w_J1_indexOf_4cfef {X : TX} {p : Program} {l : Launch} {e : Env} {s : State} {mi : MethodId} {args : Array Value} {below : List Frame} {meth : Method} {c : Code} {Q : State → Prop} {r : Int32} {mE : Mem} (C : Cx X p s mi args c RJ1 cJ1_indexOf_4cfef 4) (hq : RetI X p l e (rmD 1) s mi args below meth c cJ1_indexOf_4cfef .int Q r mE) {fu : Nat} {i0 : Nat} {x1 : Int32} {x2 : Int32} {x3 : Int32} {m : Mem} {H : Heap} {locs : List Loc} {ls : Array Slot} (h : f_J1_indexOf_4cfef fu i0 x1 x2 x3 m = some (r, mE)) (g_i0 : i0 < 6) (hW : Wd X s m H locs) (hl : lv_has ls 4 [(0, .ref (adV X i0)), (1, .int x1), (2, .int x2), (3, .int x3)]) : W p l e (rmD 1) s mi args below meth c H locs 0 0 Q (F0 mi 0 ls []) := by
  unfold f_J1_indexOf_4cfef at h
  refine lv_iload_n C.1 C.2.1 dJ1_indexOf_4cfef_0 rfl (lv_at hl 1 rfl) ?_
  obtain ⟨r_3, m_2, hc_1, h⟩ := doI_E h
  refine zr_cSI C hW (c_J1_canEncode_9a6ad (x0 := x1) hc_1 ) k_J1_canEncode_9a6ad w_821 ⟨Nat.le_of_ble_eq_true rfl, Nat.le_of_ble_eq_true rfl⟩ ⟨Nat.le_refl 0, Nat.le_refl 0⟩ rfl hl.1 rfl (Nat.le_of_ble_eq_true rfl) dJ1_indexOf_4cfef_1 (fun H locs hW => ?_)
  refine lv_if_ne (tgt := 9) C.1 C.2.1 dJ1_indexOf_4cfef_4 (by decide) (fun hc_12 => ?_) (fun hc_12 => ?_)
  · have h := ite_f hc_12 h
    refine lv_iload_n C.1 C.2.1 dJ1_indexOf_4cfef_9 rfl (lv_at hl 2 rfl) ?_
    refine lv_iconst (v := 0) C.1 C.2.1 dJ1_indexOf_4cfef_10 rfl ?_
    refine va_mmax C.1 C.2.1 (C.2.2.1.trans hl.1.symm) C.2.2.2.1 (C.2.2.2.2.1 _ w_824) (C.2.2.2.2.1 _ w_431) (C.2.2.2.2.1 _ w_71) (C.2.2.2.2.1 _ w_432) (Nat.le_of_ble_eq_true rfl) (Nat.le_of_ble_eq_true rfl) (Nat.le_refl 0) (Nat.le_refl 0) dJ1_indexOf_4cfef_11 ?_
    obtain ⟨x_4, e_5, h⟩ := seqM_E h
    refine lv_name e_5 ?_
    refine lv_istore_n (lv' := [(2, .int x_4), (0, .ref (adV X i0)), (1, .int x1), (3, .int x3)]) C.1 C.2.1 dJ1_indexOf_4cfef_14 rfl hl (by decide) rfl (fun ls hl => ?_)
    refine lv_iload_n C.1 C.2.1 dJ1_indexOf_4cfef_15 rfl (lv_at hl 3 rfl) ?_
    refine lv_aload_n C.1 C.2.1 dJ1_indexOf_4cfef_16 rfl (lv_at hl 1 rfl) ?_
    refine zs_len C hW g_i0 dJ1_indexOf_4cfef_17 ?_
    refine va_mmin C.1 C.2.1 (C.2.2.1.trans hl.1.symm) C.2.2.2.1 (C.2.2.2.2.1 _ w_825) (C.2.2.2.2.1 _ w_513) (C.2.2.2.2.1 _ w_71) (C.2.2.2.2.1 _ w_514) (Nat.le_of_ble_eq_true rfl) (Nat.le_of_ble_eq_true rfl) (Nat.le_refl 0) (Nat.le_refl 0) dJ1_indexOf_4cfef_18 ?_
    obtain ⟨x_6, e_7, h⟩ := seqM_E h
    refine lv_name e_7 ?_
    refine lv_istore_n (lv' := [(3, .int x_6), (2, .int x_4), (0, .ref (adV X i0)), (1, .int x1)]) C.1 C.2.1 dJ1_indexOf_4cfef_21 rfl hl (by decide) rfl (fun ls hl => ?_)
    refine lv_iload_n C.1 C.2.1 dJ1_indexOf_4cfef_22 rfl (lv_at hl 1 rfl) ?_
    refine lv_iload_n C.1 C.2.1 dJ1_indexOf_4cfef_23 rfl (lv_at hl 0 rfl) ?_
    refine lv_icmp_lt (tgt := 29) C.1 C.2.1 dJ1_indexOf_4cfef_24 (by decide) (fun hc_11 => ?_) (fun hc_11 => ?_)
    · have h := ite_t hc_11 h
      refine lv_aload_n C.1 C.2.1 dJ1_indexOf_4cfef_29 rfl (lv_at hl 2 rfl) ?_
      refine lv_iload_n C.1 C.2.1 dJ1_indexOf_4cfef_30 rfl (lv_at hl 3 rfl) ?_
      refine lv_iload_n C.1 C.2.1 dJ1_indexOf_4cfef_31 rfl (lv_at hl 1 rfl) ?_
      refine lv_iload_n C.1 C.2.1 dJ1_indexOf_4cfef_32 rfl (lv_at hl 0 rfl) ?_
      obtain ⟨r_10, m_9, hc_8, h⟩ := doI_E h
      refine zr_cSI C hW (c_J1_indexOfChar_4cfef (i0 := i0) (x1 := x1) (x2 := x_4) (x3 := x_6) hc_8 g_i0) k_J1_indexOfChar_4cfef w_826 ⟨Nat.le_of_ble_eq_true rfl, Nat.le_of_ble_eq_true rfl⟩ ⟨Nat.le_refl 0, Nat.le_refl 0⟩ rfl hl.1 rfl (Nat.le_of_ble_eq_true rfl) dJ1_indexOf_4cfef_33 (fun H locs hW => ?_)
      exact ret_i h hq rfl hW dJ1_indexOf_4cfef_36
    · have h := ite_f hc_11 h
      refine lv_iconst (v := (-1)) C.1 C.2.1 dJ1_indexOf_4cfef_27 rfl ?_
      exact ret_i h hq rfl hW dJ1_indexOf_4cfef_28
  · have h := ite_t hc_12 h
    refine lv_iconst (v := (-1)) C.1 C.2.1 dJ1_indexOf_4cfef_7 rfl ?_
    exact ret_i h hq rfl hW dJ1_indexOf_4cfef_8
theorem c_J1_indexOf_4cfef {X : TX} {l : Launch} {fu : Nat} {i0 : Nat} {x1 : Int32} {x2 : Int32} {x3 : Int32} {m mE : Mem} {r : Int32} (h : f_J1_indexOf_4cfef fu i0 x1 x2 x3 m = some (r, mE)) (g_i0 : i0 < 6) : MetI X l yJ1_indexOf_4cfef cJ1_indexOf_4cfef 4 .int 1 [.ref (adV X i0), .int x1, .int x2, .int x3] m r mE :=
  met_I (by decide) (Nat.le_of_ble_eq_true rfl) (fun p e s mi args below meth c ls Q C hq hW hl => w_J1_indexOf_4cfef C hq h g_i0 hW (lv_sub hl [0, 1, 2, 3] rfl))
theorem k_J1_indexOf_4cfef : CalS yJ1_indexOf_4cfef cJ1_indexOf_4cfef 4 (some .int) 4 := ⟨w_819, w_74, w_820, by decide +kernel⟩
theorem dJ0_indexOf_7cf53_0 : decode cJ0_indexOf_7cf53 0 = .ok (.aload_n 0, 1) := by decide +kernel
theorem dJ0_indexOf_7cf53_1 : decode cJ0_indexOf_7cf53 1 = .ok (.invokevirtual 492, 3) := by decide +kernel
theorem dJ0_indexOf_7cf53_4 : decode cJ0_indexOf_7cf53 4 = .ok (.ifCond .eq 19, 3) := by decide +kernel
theorem dJ0_indexOf_7cf53_7 : decode cJ0_indexOf_7cf53 7 = .ok (.aload_n 0, 1) := by decide +kernel
theorem dJ0_indexOf_7cf53_8 : decode cJ0_indexOf_7cf53 8 = .ok (.getfield 9, 3) := by decide +kernel
theorem dJ0_indexOf_7cf53_11 : decode cJ0_indexOf_7cf53 11 = .ok (.iload_n 1, 1) := by decide +kernel
theorem dJ0_indexOf_7cf53_12 : decode cJ0_indexOf_7cf53 12 = .ok (.iload_n 2, 1) := by decide +kernel
theorem dJ0_indexOf_7cf53_13 : decode cJ0_indexOf_7cf53 13 = .ok (.aload_n 0, 1) := by decide +kernel
theorem dJ0_indexOf_7cf53_14 : decode cJ0_indexOf_7cf53 14 = .ok (.invokevirtual 505, 3) := by decide +kernel
theorem dJ0_indexOf_7cf53_17 : decode cJ0_indexOf_7cf53 17 = .ok (.invokestatic 637, 3) := by decide +kernel
theorem dJ0_indexOf_7cf53_20 : decode cJ0_indexOf_7cf53 20 = .ok (.goto 16, 3) := by decide +kernel
theorem dJ0_indexOf_7cf53_23 : decode cJ0_indexOf_7cf53 23 = .ok (.aload_n 0, 1) := by decide +kernel
theorem dJ0_indexOf_7cf53_36 : decode cJ0_indexOf_7cf53 36 = .ok (.ireturn, 1) := by decide +kernel
def f_J0_indexOf_7cf53 (fu : Nat)  (i0 : Nat) (x1 : Int32) (x2 : Int32) (m : Mem) : Option (Int32 × Mem) := doI (f_J0_isLatin1_aae02 fu i0 m) (fun r_3 m_2 => if r_3 = 0 then (none) else (doI (f_J0_length_8abf5 fu i0 m_2) (fun r_6 m_5 => doI (f_J1_indexOf_4cfef fu i0 x1 x2 r_6 m_5) (fun r_9 m_8 => some (r_9, m_8)))))
set_option maxHeartbeats 4000000 in
set_option maxRecDepth 100000 in
theorem w_J0_indexOf_7cf53 {X : TX} {p : Program} {l : Launch} {e : Env} {s : State} {mi : MethodId} {args : Array Value} {below : List Frame} {meth : Method} {c : Code} {Q : State → Prop} {r : Int32} {mE : Mem} (C : Cx X p s mi args c RJ0 cJ0_indexOf_7cf53 3) (hq : RetI X p l e (rmD 2) s mi args below meth c cJ0_indexOf_7cf53 .int Q r mE) {fu : Nat} {i0 : Nat} {x1 : Int32} {x2 : Int32} {m : Mem} {H : Heap} {locs : List Loc} {ls : Array Slot} (h : f_J0_indexOf_7cf53 fu i0 x1 x2 m = some (r, mE)) (g_i0 : i0 < 6) (hW : Wd X s m H locs) (hl : lv_has ls 3 [(0, .ref (adK X i0)), (1, .int x1), (2, .int x2)]) : W p l e (rmD 2) s mi args below meth c H locs 0 0 Q (F0 mi 0 ls []) := by
  unfold f_J0_indexOf_7cf53 at h
  refine lv_aload_n C.1 C.2.1 dJ0_indexOf_7cf53_0 rfl (lv_at hl 0 rfl) ?_
  obtain ⟨r_3, m_2, hc_1, h⟩ := doI_E h
  refine zr_cVI C hW (c_J0_isLatin1_aae02 (i0 := i0) hc_1 g_i0) k_J0_isLatin1_aae02 (zs_recv C hW g_i0) w_750 ⟨Nat.le_of_ble_eq_true rfl, Nat.le_of_ble_eq_true rfl⟩ ⟨Nat.le_refl 0, Nat.le_refl 0⟩ rfl hl.1 rfl (Nat.le_of_ble_eq_true rfl) dJ0_indexOf_7cf53_1 (fun H locs hW => ?_)
  refine lv_if_eq (tgt := 23) C.1 C.2.1 dJ0_indexOf_7cf53_4 (by decide) (fun hc_10 => ?_) (fun hc_10 => ?_)
  · have h := ite_t hc_10 h
    cases h
  · have h := ite_f hc_10 h
    refine lv_aload_n C.1 C.2.1 dJ0_indexOf_7cf53_7 rfl (lv_at hl 0 rfl) ?_
    refine zs_value C hW g_i0 w_1462 dJ0_indexOf_7cf53_8 ?_
    refine lv_iload_n C.1 C.2.1 dJ0_indexOf_7cf53_11 rfl (lv_at hl 1 rfl) ?_
    refine lv_iload_n C.1 C.2.1 dJ0_indexOf_7cf53_12 rfl (lv_at hl 2 rfl) ?_
    refine lv_aload_n C.1 C.2.1 dJ0_indexOf_7cf53_13 rfl (lv_at hl 0 rfl) ?_
    obtain ⟨r_6, m_5, hc_4, h⟩ := doI_E h
    refine zr_cVI C hW (c_J0_length_8abf5 (i0 := i0) hc_4 g_i0) k_J0_length_8abf5 (zs_recv C hW g_i0) w_817 ⟨Nat.le_of_ble_eq_true rfl, Nat.le_of_ble_eq_true rfl⟩ ⟨Nat.le_refl 0, Nat.le_refl 0⟩ rfl hl.1 rfl (Nat.le_of_ble_eq_true rfl) dJ0_indexOf_7cf53_14 (fun H locs hW => ?_)
    obtain ⟨r_9, m_8, hc_7, h⟩ := doI_E h
    refine zr_cSI C hW (c_J1_indexOf_4cfef (i0 := i0) (x1 := x1) (x2 := x2) (x3 := r_6) hc_7 g_i0) k_J1_indexOf_4cfef w_818 ⟨Nat.le_of_ble_eq_true rfl, Nat.le_of_ble_eq_true rfl⟩ ⟨Nat.le_refl 0, Nat.le_refl 0⟩ rfl hl.1 rfl (Nat.le_of_ble_eq_true rfl) dJ0_indexOf_7cf53_17 (fun H locs hW => ?_)
    refine lv_goto (tgt := 36) C.1 C.2.1 dJ0_indexOf_7cf53_20 (by decide) ?_
    exact ret_i h hq rfl hW dJ0_indexOf_7cf53_36
theorem c_J0_indexOf_7cf53 {X : TX} {l : Launch} {fu : Nat} {i0 : Nat} {x1 : Int32} {x2 : Int32} {m mE : Mem} {r : Int32} (h : f_J0_indexOf_7cf53 fu i0 x1 x2 m = some (r, mE)) (g_i0 : i0 < 6) : MetI X l yJ0_indexOf_7cf53 cJ0_indexOf_7cf53 3 .int 2 [.ref (adK X i0), .int x1, .int x2] m r mE :=
  met_I (by decide) (Nat.le_of_ble_eq_true rfl) (fun p e s mi args below meth c ls Q C hq hW hl => w_J0_indexOf_7cf53 C hq h g_i0 hW (lv_sub hl [0, 1, 2] rfl))
theorem k_J0_indexOf_7cf53 : CalV yJ0_indexOf_7cf53 cJ0_indexOf_7cf53 3 (some .int) RJ0 2 := ⟨w_814, w_815, w_73, w_816, by decide +kernel⟩
theorem dJ0_indexOf_0f7a4_0 : decode cJ0_indexOf_0f7a4 0 = .ok (.aload_n 0, 1) := by decide +kernel
theorem dJ0_indexOf_0f7a4_1 : decode cJ0_indexOf_0f7a4 1 = .ok (.iload_n 1, 1) := by decide +kernel
theorem dJ0_indexOf_0f7a4_2 : decode cJ0_indexOf_0f7a4 2 = .ok (.iconst 0, 1) := by decide +kernel
theorem dJ0_indexOf_0f7a4_3 : decode cJ0_indexOf_0f7a4 3 = .ok (.invokevirtual 633, 3) := by decide +kernel
theorem dJ0_indexOf_0f7a4_6 : decode cJ0_indexOf_0f7a4 6 = .ok (.ireturn, 1) := by decide +kernel
def f_J0_indexOf_0f7a4 (fu : Nat)  (i0 : Nat) (x1 : Int32) (m : Mem) : Option (Int32 × Mem) := doI (f_J0_indexOf_7cf53 fu i0 x1 0 m) (fun r_3 m_2 => some (r_3, m_2))
set_option maxHeartbeats 4000000 in
set_option maxRecDepth 100000 in
theorem w_J0_indexOf_0f7a4 {X : TX} {p : Program} {l : Launch} {e : Env} {s : State} {mi : MethodId} {args : Array Value} {below : List Frame} {meth : Method} {c : Code} {Q : State → Prop} {r : Int32} {mE : Mem} (C : Cx X p s mi args c RJ0 cJ0_indexOf_0f7a4 2) (hq : RetI X p l e (rmD 3) s mi args below meth c cJ0_indexOf_0f7a4 .int Q r mE) {fu : Nat} {i0 : Nat} {x1 : Int32} {m : Mem} {H : Heap} {locs : List Loc} {ls : Array Slot} (h : f_J0_indexOf_0f7a4 fu i0 x1 m = some (r, mE)) (g_i0 : i0 < 6) (hW : Wd X s m H locs) (hl : lv_has ls 2 [(0, .ref (adK X i0)), (1, .int x1)]) : W p l e (rmD 3) s mi args below meth c H locs 0 0 Q (F0 mi 0 ls []) := by
  unfold f_J0_indexOf_0f7a4 at h
  refine lv_aload_n C.1 C.2.1 dJ0_indexOf_0f7a4_0 rfl (lv_at hl 0 rfl) ?_
  refine lv_iload_n C.1 C.2.1 dJ0_indexOf_0f7a4_1 rfl (lv_at hl 1 rfl) ?_
  refine lv_iconst (v := 0) C.1 C.2.1 dJ0_indexOf_0f7a4_2 rfl ?_
  obtain ⟨r_3, m_2, hc_1, h⟩ := doI_E h
  refine zr_cVI C hW (c_J0_indexOf_7cf53 (i0 := i0) (x1 := x1) (x2 := 0) hc_1 g_i0) k_J0_indexOf_7cf53 (zs_recv C hW g_i0) w_813 ⟨Nat.le_of_ble_eq_true rfl, Nat.le_of_ble_eq_true rfl⟩ ⟨Nat.le_refl 0, Nat.le_refl 0⟩ rfl hl.1 rfl (Nat.le_of_ble_eq_true rfl) dJ0_indexOf_0f7a4_3 (fun H locs hW => ?_)
  exact ret_i h hq rfl hW dJ0_indexOf_0f7a4_6
theorem c_J0_indexOf_0f7a4 {X : TX} {l : Launch} {fu : Nat} {i0 : Nat} {x1 : Int32} {m mE : Mem} {r : Int32} (h : f_J0_indexOf_0f7a4 fu i0 x1 m = some (r, mE)) (g_i0 : i0 < 6) : MetI X l yJ0_indexOf_0f7a4 cJ0_indexOf_0f7a4 2 .int 3 [.ref (adK X i0), .int x1] m r mE :=
  met_I (by decide) (Nat.le_of_ble_eq_true rfl) (fun p e s mi args below meth c ls Q C hq hW hl => w_J0_indexOf_0f7a4 C hq h g_i0 hW (lv_sub hl [0, 1] rfl))
theorem k_J0_indexOf_0f7a4 : CalV yJ0_indexOf_0f7a4 cJ0_indexOf_0f7a4 2 (some .int) RJ0 1 := ⟨w_810, w_811, w_73, w_812, by decide +kernel⟩
