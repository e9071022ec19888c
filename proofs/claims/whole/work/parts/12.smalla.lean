theorem dJ6_bitCount_0f7a4_0 : decode cJ6_bitCount_0f7a4 0 = .ok (.iload_n 0, 1) := by decide +kernel
theorem dJ6_bitCount_0f7a4_1 : decode cJ6_bitCount_0f7a4 1 = .ok (.iload_n 0, 1) := by decide +kernel
theorem dJ6_bitCount_0f7a4_2 : decode cJ6_bitCount_0f7a4 2 = .ok (.iconst 1, 1) := by decide +kernel
theorem dJ6_bitCount_0f7a4_3 : decode cJ6_bitCount_0f7a4 3 = .ok (.iushr, 1) := by decide +kernel
theorem dJ6_bitCount_0f7a4_4 : decode cJ6_bitCount_0f7a4 4 = .ok (.ldc_w 265, 3) := by decide +kernel
theorem dJ6_bitCount_0f7a4_7 : decode cJ6_bitCount_0f7a4 7 = .ok (.iand, 1) := by decide +kernel
theorem dJ6_bitCount_0f7a4_8 : decode cJ6_bitCount_0f7a4 8 = .ok (.isub, 1) := by decide +kernel
theorem dJ6_bitCount_0f7a4_9 : decode cJ6_bitCount_0f7a4 9 = .ok (.istore_n 0, 1) := by decide +kernel
theorem dJ6_bitCount_0f7a4_10 : decode cJ6_bitCount_0f7a4 10 = .ok (.iload_n 0, 1) := by decide +kernel
theorem dJ6_bitCount_0f7a4_11 : decode cJ6_bitCount_0f7a4 11 = .ok (.ldc_w 266, 3) := by decide +kernel
theorem dJ6_bitCount_0f7a4_14 : decode cJ6_bitCount_0f7a4 14 = .ok (.iand, 1) := by decide +kernel
theorem dJ6_bitCount_0f7a4_15 : decode cJ6_bitCount_0f7a4 15 = .ok (.iload_n 0, 1) := by decide +kernel
theorem dJ6_bitCount_0f7a4_16 : decode cJ6_bitCount_0f7a4 16 = .ok (.iconst 2, 1) := by decide +kernel
theorem dJ6_bitCount_0f7a4_17 : decode cJ6_bitCount_0f7a4 17 = .ok (.iushr, 1) := by decide +kernel
theorem dJ6_bitCount_0f7a4_18 : decode cJ6_bitCount_0f7a4 18 = .ok (.ldc_w 266, 3) := by decide +kernel
theorem dJ6_bitCount_0f7a4_21 : decode cJ6_bitCount_0f7a4 21 = .ok (.iand, 1) := by decide +kernel
theorem dJ6_bitCount_0f7a4_22 : decode cJ6_bitCount_0f7a4 22 = .ok (.iadd, 1) := by decide +kernel
theorem dJ6_bitCount_0f7a4_23 : decode cJ6_bitCount_0f7a4 23 = .ok (.istore_n 0, 1) := by decide +kernel
theorem dJ6_bitCount_0f7a4_24 : decode cJ6_bitCount_0f7a4 24 = .ok (.iload_n 0, 1) := by decide +kernel
theorem dJ6_bitCount_0f7a4_25 : decode cJ6_bitCount_0f7a4 25 = .ok (.iload_n 0, 1) := by decide +kernel
theorem dJ6_bitCount_0f7a4_26 : decode cJ6_bitCount_0f7a4 26 = .ok (.iconst 4, 1) := by decide +kernel
theorem dJ6_bitCount_0f7a4_27 : decode cJ6_bitCount_0f7a4 27 = .ok (.iushr, 1) := by decide +kernel
theorem dJ6_bitCount_0f7a4_28 : decode cJ6_bitCount_0f7a4 28 = .ok (.iadd, 1) := by decide +kernel
theorem dJ6_bitCount_0f7a4_29 : decode cJ6_bitCount_0f7a4 29 = .ok (.ldc_w 267, 3) := by decide +kernel
theorem dJ6_bitCount_0f7a4_32 : decode cJ6_bitCount_0f7a4 32 = .ok (.iand, 1) := by decide +kernel
theorem dJ6_bitCount_0f7a4_33 : decode cJ6_bitCount_0f7a4 33 = .ok (.istore_n 0, 1) := by decide +kernel
theorem dJ6_bitCount_0f7a4_34 : decode cJ6_bitCount_0f7a4 34 = .ok (.iload_n 0, 1) := by decide +kernel
theorem dJ6_bitCount_0f7a4_35 : decode cJ6_bitCount_0f7a4 35 = .ok (.iload_n 0, 1) := by decide +kernel
theorem dJ6_bitCount_0f7a4_36 : decode cJ6_bitCount_0f7a4 36 = .ok (.bipush 8, 2) := by decide +kernel
theorem dJ6_bitCount_0f7a4_38 : decode cJ6_bitCount_0f7a4 38 = .ok (.iushr, 1) := by decide +kernel
theorem dJ6_bitCount_0f7a4_39 : decode cJ6_bitCount_0f7a4 39 = .ok (.iadd, 1) := by decide +kernel
theorem dJ6_bitCount_0f7a4_40 : decode cJ6_bitCount_0f7a4 40 = .ok (.istore_n 0, 1) := by decide +kernel
theorem dJ6_bitCount_0f7a4_41 : decode cJ6_bitCount_0f7a4 41 = .ok (.iload_n 0, 1) := by decide +kernel
theorem dJ6_bitCount_0f7a4_42 : decode cJ6_bitCount_0f7a4 42 = .ok (.iload_n 0, 1) := by decide +kernel
theorem dJ6_bitCount_0f7a4_43 : decode cJ6_bitCount_0f7a4 43 = .ok (.bipush 16, 2) := by decide +kernel
theorem dJ6_bitCount_0f7a4_45 : decode cJ6_bitCount_0f7a4 45 = .ok (.iushr, 1) := by decide +kernel
theorem dJ6_bitCount_0f7a4_46 : decode cJ6_bitCount_0f7a4 46 = .ok (.iadd, 1) := by decide +kernel
theorem dJ6_bitCount_0f7a4_47 : decode cJ6_bitCount_0f7a4 47 = .ok (.istore_n 0, 1) := by decide +kernel
theorem dJ6_bitCount_0f7a4_48 : decode cJ6_bitCount_0f7a4 48 = .ok (.iload_n 0, 1) := by decide +kernel
theorem dJ6_bitCount_0f7a4_49 : decode cJ6_bitCount_0f7a4 49 = .ok (.bipush 63, 2) := by decide +kernel
theorem dJ6_bitCount_0f7a4_51 : decode cJ6_bitCount_0f7a4 51 = .ok (.iand, 1) := by decide +kernel
theorem dJ6_bitCount_0f7a4_52 : decode cJ6_bitCount_0f7a4 52 = .ok (.ireturn, 1) := by decide +kernel
def f_J6_bitCount_0f7a4 (fu : Nat)  (x0 : Int32) (m : Mem) : Option (Int32 × Mem) := seqM (x0 - ((ushr x0 1) &&& 1431655765)) (fun x_1 : Int32 => seqM ((x_1 &&& 858993459) + ((ushr x_1 2) &&& 858993459)) (fun x_3 : Int32 => seqM ((x_3 + (ushr x_3 4)) &&& 252645135) (fun x_5 : Int32 => seqM (x_5 + (ushr x_5 8)) (fun x_7 : Int32 => seqM (x_7 + (ushr x_7 16)) (fun x_9 : Int32 => some ((x_9 &&& 63), m))))))
set_option maxHeartbeats 4000000 in
set_option maxRecDepth 100000 in
theorem w_J6_bitCount_0f7a4 {X : TX} {p : Program} {l : Launch} {e : Env} {s : State} {mi : MethodId} {args : Array Value} {below : List Frame} {meth : Method} {c : Code} {Q : State → Prop} {r : Int32} {mE : Mem} (C : Cx X p s mi args c RJ6 cJ6_bitCount_0f7a4 1) (hq : RetI X p l e (rmD 0) s mi args below meth c cJ6_bitCount_0f7a4 .int Q r mE) {fu : Nat} {x0 : Int32} {m : Mem} {H : Heap} {locs : List Loc} {ls : Array Slot} (h : f_J6_bitCount_0f7a4 fu x0 m = some (r, mE))  (hW : Wd X s m H locs) (hl : lv_has ls 1 [(0, .int x0)]) : W p l e (rmD 0) s mi args below meth c H locs 0 0 Q (F0 mi 0 ls []) := by
  unfold f_J6_bitCount_0f7a4 at h
  refine lv_iload_n C.1 C.2.1 dJ6_bitCount_0f7a4_0 rfl (lv_at hl 0 rfl) ?_
  refine lv_iload_n C.1 C.2.1 dJ6_bitCount_0f7a4_1 rfl (lv_at hl 0 rfl) ?_
  refine lv_iconst (v := 1) C.1 C.2.1 dJ6_bitCount_0f7a4_2 rfl ?_
  refine lv_iushr (v := (ushr x0 1)) C.1 C.2.1 dJ6_bitCount_0f7a4_3 rfl ?_
  refine lv_ldcw C.1 C.2.1 C.2.2.2.1 (C.2.2.2.2.1 _ w_560) dJ6_bitCount_0f7a4_4 ?_
  refine lv_iand C.1 C.2.1 dJ6_bitCount_0f7a4_7 ?_
  refine lv_isub C.1 C.2.1 dJ6_bitCount_0f7a4_8 ?_
  obtain ⟨x_1, e_2, h⟩ := seqM_E h
  refine lv_name e_2 ?_
  refine lv_istore_n (lv' := [(0, .int x_1)]) C.1 C.2.1 dJ6_bitCount_0f7a4_9 rfl hl (by decide) rfl (fun ls hl => ?_)
  refine lv_iload_n C.1 C.2.1 dJ6_bitCount_0f7a4_10 rfl (lv_at hl 0 rfl) ?_
  refine lv_ldcw C.1 C.2.1 C.2.2.2.1 (C.2.2.2.2.1 _ w_561) dJ6_bitCount_0f7a4_11 ?_
  refine lv_iand C.1 C.2.1 dJ6_bitCount_0f7a4_14 ?_
  refine lv_iload_n C.1 C.2.1 dJ6_bitCount_0f7a4_15 rfl (lv_at hl 0 rfl) ?_
  refine lv_iconst (v := 2) C.1 C.2.1 dJ6_bitCount_0f7a4_16 rfl ?_
  refine lv_iushr (v := (ushr x_1 2)) C.1 C.2.1 dJ6_bitCount_0f7a4_17 rfl ?_
  refine lv_ldcw C.1 C.2.1 C.2.2.2.1 (C.2.2.2.2.1 _ w_561) dJ6_bitCount_0f7a4_18 ?_
  refine lv_iand C.1 C.2.1 dJ6_bitCount_0f7a4_21 ?_
  refine lv_iadd C.1 C.2.1 dJ6_bitCount_0f7a4_22 ?_
  obtain ⟨x_3, e_4, h⟩ := seqM_E h
  refine lv_name e_4 ?_
  refine lv_istore_n (lv' := [(0, .int x_3)]) C.1 C.2.1 dJ6_bitCount_0f7a4_23 rfl hl (by decide) rfl (fun ls hl => ?_)
  refine lv_iload_n C.1 C.2.1 dJ6_bitCount_0f7a4_24 rfl (lv_at hl 0 rfl) ?_
  refine lv_iload_n C.1 C.2.1 dJ6_bitCount_0f7a4_25 rfl (lv_at hl 0 rfl) ?_
  refine lv_iconst (v := 4) C.1 C.2.1 dJ6_bitCount_0f7a4_26 rfl ?_
  refine lv_iushr (v := (ushr x_3 4)) C.1 C.2.1 dJ6_bitCount_0f7a4_27 rfl ?_
  refine lv_iadd C.1 C.2.1 dJ6_bitCount_0f7a4_28 ?_
  refine lv_ldcw C.1 C.2.1 C.2.2.2.1 (C.2.2.2.2.1 _ w_562) dJ6_bitCount_0f7a4_29 ?_
  refine lv_iand C.1 C.2.1 dJ6_bitCount_0f7a4_32 ?_
  obtain ⟨x_5, e_6, h⟩ := seqM_E h
  refine lv_name e_6 ?_
  refine lv_istore_n (lv' := [(0, .int x_5)]) C.1 C.2.1 dJ6_bitCount_0f7a4_33 rfl hl (by decide) rfl (fun ls hl => ?_)
  refine lv_iload_n C.1 C.2.1 dJ6_bitCount_0f7a4_34 rfl (lv_at hl 0 rfl) ?_
  refine lv_iload_n C.1 C.2.1 dJ6_bitCount_0f7a4_35 rfl (lv_at hl 0 rfl) ?_
  refine lv_bipush (v := 8) C.1 C.2.1 dJ6_bitCount_0f7a4_36 rfl ?_
  refine lv_iushr (v := (ushr x_5 8)) C.1 C.2.1 dJ6_bitCount_0f7a4_38 rfl ?_
  refine lv_iadd C.1 C.2.1 dJ6_bitCount_0f7a4_39 ?_
  obtain ⟨x_7, e_8, h⟩ := seqM_E h
  refine lv_name e_8 ?_
  refine lv_istore_n (lv' := [(0, .int x_7)]) C.1 C.2.1 dJ6_bitCount_0f7a4_40 rfl hl (by decide) rfl (fun ls hl => ?_)
  refine lv_iload_n C.1 C.2.1 dJ6_bitCount_0f7a4_41 rfl (lv_at hl 0 rfl) ?_
  refine lv_iload_n C.1 C.2.1 dJ6_bitCount_0f7a4_42 rfl (lv_at hl 0 rfl) ?_
  refine lv_bipush (v := 16) C.1 C.2.1 dJ6_bitCount_0f7a4_43 rfl ?_
  refine lv_iushr (v := (ushr x_7 16)) C.1 C.2.1 dJ6_bitCount_0f7a4_45 rfl ?_
  refine lv_iadd C.1 C.2.1 dJ6_bitCount_0f7a4_46 ?_
  obtain ⟨x_9, e_10, h⟩ := seqM_E h
  refine lv_name e_10 ?_
  refine lv_istore_n (lv' := [(0, .int x_9)]) C.1 C.2.1 dJ6_bitCount_0f7a4_47 rfl hl (by decide) rfl (fun ls hl => ?_)
  refine lv_iload_n C.1 C.2.1 dJ6_bitCount_0f7a4_48 rfl (lv_at hl 0 rfl) ?_
  refine lv_bipush (v := 63) C.1 C.2.1 dJ6_bitCount_0f7a4_49 rfl ?_
  refine lv_iand C.1 C.2.1 dJ6_bitCount_0f7a4_51 ?_
  exact ret_i h hq rfl hW dJ6_bitCount_0f7a4_52
theorem c_J6_bitCount_0f7a4 {X : TX} {l : Launch} {fu : Nat} {x0 : Int32} {m mE : Mem} {r : Int32} (h : f_J6_bitCount_0f7a4 fu x0 m = some (r, mE))  : MetI X l yJ6_bitCount_0f7a4 cJ6_bitCount_0f7a4 1 .int 0 [.int x0] m r mE :=
  met_I (by decide) (Nat.le_of_ble_eq_true rfl) (fun p e s mi args below meth c ls Q C hq hW hl => w_J6_bitCount_0f7a4 C hq h  hW (lv_sub hl [0] rfl))
theorem k_J6_bitCount_0f7a4 : CalS yJ6_bitCount_0f7a4 cJ6_bitCount_0f7a4 1 (some .int) 1 := ⟨w_558, w_72, w_559, by decide +kernel⟩
theorem dX0_clear_0 : decode cX0_clear 0 = .ok (.aload_n 0, 1) := by decide +kernel
theorem dX0_clear_1 : decode cX0_clear 1 = .ok (.iconst 0, 1) := by decide +kernel
theorem dX0_clear_2 : decode cX0_clear 2 = .ok (.putfield 7, 3) := by decide +kernel
theorem dX0_clear_5 : decode cX0_clear 5 = .ok (.aload_n 0, 1) := by decide +kernel
theorem dX0_clear_6 : decode cX0_clear 6 = .ok (.iconst (-1), 1) := by decide +kernel
theorem dX0_clear_7 : decode cX0_clear 7 = .ok (.putfield 13, 3) := by decide +kernel
theorem dX0_clear_10 : decode cX0_clear 10 = .ok (.return_, 1) := by decide +kernel
def f_X0_clear (fu : Nat)   (m : Mem) : Option Mem := seqM (upd m 272 0) (fun m_1 : Mem => seqM (upd m_1 273 (-1)) (fun m_3 : Mem => some m_3))
set_option maxHeartbeats 4000000 in
set_option maxRecDepth 100000 in
theorem w_X0_clear {X : TX} {p : Program} {l : Launch} {e : Env} {s : State} {mi : MethodId} {args : Array Value} {below : List Frame} {meth : Method} {c : Code} {Q : State → Prop} {mE : Mem} (C : Cx X p s mi args c RX0 cX0_clear 1) (hq : RetV X p l e (rmD 0) s mi args below meth c cX0_clear Q mE) {fu : Nat}  {m : Mem} {H : Heap} {locs : List Loc} {ls : Array Slot} (h : f_X0_clear fu  m = some mE)  (hW : Wd X s m H locs) (hl : lv_has ls 1 [(0, .ref (ad X 13 0))]) : W p l e (rmD 0) s mi args below meth c H locs 0 0 Q (F0 mi 0 ls []) := by
  unfold f_X0_clear at h
  refine lv_aload_n C.1 C.2.1 dX0_clear_0 rfl (lv_at hl 0 rfl) ?_
  refine lv_iconst (v := 0) C.1 C.2.1 dX0_clear_1 rfl ?_
  obtain ⟨m_1, e_2, h⟩ := seqM_E h
  refine zp_X0_choice C hW id_13 w_306 e_2 dX0_clear_2 (fun H locs hW => ?_)
  refine lv_aload_n C.1 C.2.1 dX0_clear_5 rfl (lv_at hl 0 rfl) ?_
  refine lv_iconst (v := (-1)) C.1 C.2.1 dX0_clear_6 rfl ?_
  obtain ⟨m_3, e_4, h⟩ := seqM_E h
  refine zp_X0_most C hW id_13 w_307 e_4 dX0_clear_7 (fun H locs hW => ?_)
  exact ret_v h hq hW dX0_clear_10
theorem c_X0_clear {X : TX} {l : Launch} {fu : Nat}  {m mE : Mem} (h : f_X0_clear fu  m = some mE)  : MetV X l yX0_clear cX0_clear 1 0 [.ref (ad X 13 0)] m mE :=
  met_V (by decide) (Nat.le_of_ble_eq_true rfl) (fun p e s mi args below meth c ls Q C hq hW hl => w_X0_clear C hq h  hW (lv_sub hl [0] rfl))
theorem k_X0_clear : CalV yX0_clear cX0_clear 1 none RX0 0 := ⟨w_620, w_621, w_67, w_622, by decide +kernel⟩
theorem dX0_weigh_0 : decode cX0_weigh 0 = .ok (.iload_n 2, 1) := by decide +kernel
theorem dX0_weigh_1 : decode cX0_weigh 1 = .ok (.aload_n 0, 1) := by decide +kernel
theorem dX0_weigh_2 : decode cX0_weigh 2 = .ok (.getfield 13, 3) := by decide +kernel
theorem dX0_weigh_5 : decode cX0_weigh 5 = .ok (.if_icmp .le 13, 3) := by decide +kernel
theorem dX0_weigh_8 : decode cX0_weigh 8 = .ok (.aload_n 0, 1) := by decide +kernel
theorem dX0_weigh_9 : decode cX0_weigh 9 = .ok (.iload_n 1, 1) := by decide +kernel
theorem dX0_weigh_10 : decode cX0_weigh 10 = .ok (.putfield 7, 3) := by decide +kernel
theorem dX0_weigh_13 : decode cX0_weigh 13 = .ok (.aload_n 0, 1) := by decide +kernel
theorem dX0_weigh_14 : decode cX0_weigh 14 = .ok (.iload_n 2, 1) := by decide +kernel
theorem dX0_weigh_15 : decode cX0_weigh 15 = .ok (.putfield 13, 3) := by decide +kernel
theorem dX0_weigh_18 : decode cX0_weigh 18 = .ok (.return_, 1) := by decide +kernel
def f_X0_weigh (fu : Nat)  (x1 : Int32) (x2 : Int32) (m : Mem) : Option Mem := if x2 ≤ (m 273) then (some m) else (seqM (upd m 272 x1) (fun m_1 : Mem => seqM (upd m_1 273 x2) (fun m_3 : Mem => some m_3)))
set_option maxHeartbeats 4000000 in
set_option maxRecDepth 100000 in
theorem w_X0_weigh {X : TX} {p : Program} {l : Launch} {e : Env} {s : State} {mi : MethodId} {args : Array Value} {below : List Frame} {meth : Method} {c : Code} {Q : State → Prop} {mE : Mem} (C : Cx X p s mi args c RX0 cX0_weigh 3) (hq : RetV X p l e (rmD 0) s mi args below meth c cX0_weigh Q mE) {fu : Nat} {x1 : Int32} {x2 : Int32} {m : Mem} {H : Heap} {locs : List Loc} {ls : Array Slot} (h : f_X0_weigh fu x1 x2 m = some mE)  (hW : Wd X s m H locs) (hl : lv_has ls 3 [(0, .ref (ad X 13 0)), (1, .int x1), (2, .int x2)]) : W p l e (rmD 0) s mi args below meth c H locs 0 0 Q (F0 mi 0 ls []) := by
  unfold f_X0_weigh at h
  refine lv_iload_n C.1 C.2.1 dX0_weigh_0 rfl (lv_at hl 2 rfl) ?_
  refine lv_aload_n C.1 C.2.1 dX0_weigh_1 rfl (lv_at hl 0 rfl) ?_
  refine zg_X0_most C hW id_13 w_307 dX0_weigh_2 ?_
  refine lv_icmp_le (tgt := 18) C.1 C.2.1 dX0_weigh_5 (by decide) (fun hc_5 => ?_) (fun hc_5 => ?_)
  · have h := ite_t hc_5 h
    exact ret_v h hq hW dX0_weigh_18
  · have h := ite_f hc_5 h
    refine lv_aload_n C.1 C.2.1 dX0_weigh_8 rfl (lv_at hl 0 rfl) ?_
    refine lv_iload_n C.1 C.2.1 dX0_weigh_9 rfl (lv_at hl 1 rfl) ?_
    obtain ⟨m_1, e_2, h⟩ := seqM_E h
    refine zp_X0_choice C hW id_13 w_306 e_2 dX0_weigh_10 (fun H locs hW => ?_)
    refine lv_aload_n C.1 C.2.1 dX0_weigh_13 rfl (lv_at hl 0 rfl) ?_
    refine lv_iload_n C.1 C.2.1 dX0_weigh_14 rfl (lv_at hl 2 rfl) ?_
    obtain ⟨m_3, e_4, h⟩ := seqM_E h
    refine zp_X0_most C hW id_13 w_307 e_4 dX0_weigh_15 (fun H locs hW => ?_)
    exact ret_v h hq hW dX0_weigh_18
theorem c_X0_weigh {X : TX} {l : Launch} {fu : Nat} {x1 : Int32} {x2 : Int32} {m mE : Mem} (h : f_X0_weigh fu x1 x2 m = some mE)  : MetV X l yX0_weigh cX0_weigh 3 0 [.ref (ad X 13 0), .int x1, .int x2] m mE :=
  met_V (by decide) (Nat.le_of_ble_eq_true rfl) (fun p e s mi args below meth c ls Q C hq hW hl => w_X0_weigh C hq h  hW (lv_sub hl [0, 1, 2] rfl))
theorem k_X0_weigh : CalV yX0_weigh cX0_weigh 3 none RX0 2 := ⟨w_624, w_625, w_67, w_626, by decide +kernel⟩
theorem dX0_answer_0 : decode cX0_answer 0 = .ok (.iload_n 1, 1) := by decide +kernel
theorem dX0_answer_1 : decode cX0_answer 1 = .ok (.ifCond .ne 10, 3) := by decide +kernel
theorem dX0_answer_4 : decode cX0_answer 4 = .ok (.aload_n 0, 1) := by decide +kernel
theorem dX0_answer_5 : decode cX0_answer 5 = .ok (.getfield 7, 3) := by decide +kernel
theorem dX0_answer_8 : decode cX0_answer 8 = .ok (.goto 7, 3) := by decide +kernel
theorem dX0_answer_11 : decode cX0_answer 11 = .ok (.aload_n 0, 1) := by decide +kernel
theorem dX0_answer_12 : decode cX0_answer 12 = .ok (.getfield 13, 3) := by decide +kernel
theorem dX0_answer_15 : decode cX0_answer 15 = .ok (.ireturn, 1) := by decide +kernel
def f_X0_answer (fu : Nat)  (x1 : Int32) (m : Mem) : Option (Int32 × Mem) := if x1 = 0 then (some ((m 272), m)) else (some ((m 273), m))
set_option maxHeartbeats 4000000 in
set_option maxRecDepth 100000 in
theorem w_X0_answer {X : TX} {p : Program} {l : Launch} {e : Env} {s : State} {mi : MethodId} {args : Array Value} {below : List Frame} {meth : Method} {c : Code} {Q : State → Prop} {r : Int32} {mE : Mem} (C : Cx X p s mi args c RX0 cX0_answer 2) (hq : RetI X p l e (rmD 0) s mi args below meth c cX0_answer .int Q r mE) {fu : Nat} {x1 : Int32} {m : Mem} {H : Heap} {locs : List Loc} {ls : Array Slot} (h : f_X0_answer fu x1 m = some (r, mE))  (hW : Wd X s m H locs) (hl : lv_has ls 2 [(0, .ref (ad X 13 0)), (1, .int x1)]) : W p l e (rmD 0) s mi args below meth c H locs 0 0 Q (F0 mi 0 ls []) := by
  unfold f_X0_answer at h
  refine lv_iload_n C.1 C.2.1 dX0_answer_0 rfl (lv_at hl 1 rfl) ?_
  refine lv_if_ne (tgt := 11) C.1 C.2.1 dX0_answer_1 (by decide) (fun hc_1 => ?_) (fun hc_1 => ?_)
  · have h := ite_f hc_1 h
    refine lv_aload_n C.1 C.2.1 dX0_answer_11 rfl (lv_at hl 0 rfl) ?_
    refine zg_X0_most C hW id_13 w_307 dX0_answer_12 ?_
    exact ret_i h hq rfl hW dX0_answer_15
  · have h := ite_t hc_1 h
    refine lv_aload_n C.1 C.2.1 dX0_answer_4 rfl (lv_at hl 0 rfl) ?_
    refine zg_X0_choice C hW id_13 w_306 dX0_answer_5 ?_
    refine lv_goto (tgt := 15) C.1 C.2.1 dX0_answer_8 (by decide) ?_
    exact ret_i h hq rfl hW dX0_answer_15
theorem c_X0_answer {X : TX} {l : Launch} {fu : Nat} {x1 : Int32} {m mE : Mem} {r : Int32} (h : f_X0_answer fu x1 m = some (r, mE))  : MetI X l yX0_answer cX0_answer 2 .int 0 [.ref (ad X 13 0), .int x1] m r mE :=
  met_I (by decide) (Nat.le_of_ble_eq_true rfl) (fun p e s mi args below meth c ls Q C hq hW hl => w_X0_answer C hq h  hW (lv_sub hl [0, 1] rfl))
theorem k_X0_answer : CalV yX0_answer cX0_answer 2 (some .int) RX0 1 := ⟨w_628, w_629, w_67, w_630, by decide +kernel⟩
theorem dX2_clear_0 : decode cX2_clear 0 = .ok (.aload_n 0, 1) := by decide +kernel
theorem dX2_clear_1 : decode cX2_clear 1 = .ok (.iload_n 1, 1) := by decide +kernel
theorem dX2_clear_2 : decode cX2_clear 2 = .ok (.putfield 9, 3) := by decide +kernel
theorem dX2_clear_5 : decode cX2_clear 5 = .ok (.aload_n 0, 1) := by decide +kernel
theorem dX2_clear_6 : decode cX2_clear 6 = .ok (.iload_n 2, 1) := by decide +kernel
theorem dX2_clear_7 : decode cX2_clear 7 = .ok (.putfield 19, 3) := by decide +kernel
theorem dX2_clear_10 : decode cX2_clear 10 = .ok (.iconst 0, 1) := by decide +kernel
theorem dX2_clear_11 : decode cX2_clear 11 = .ok (.istore_n 3, 1) := by decide +kernel
theorem dX2_clear_12 : decode cX2_clear 12 = .ok (.iload_n 3, 1) := by decide +kernel
theorem dX2_clear_13 : decode cX2_clear 13 = .ok (.bipush 24, 2) := by decide +kernel
theorem dX2_clear_15 : decode cX2_clear 15 = .ok (.if_icmp .ge 16, 3) := by decide +kernel
theorem dX2_clear_18 : decode cX2_clear 18 = .ok (.aload_n 0, 1) := by decide +kernel
theorem dX2_clear_19 : decode cX2_clear 19 = .ok (.getfield 15, 3) := by decide +kernel
theorem dX2_clear_22 : decode cX2_clear 22 = .ok (.iload_n 3, 1) := by decide +kernel
theorem dX2_clear_23 : decode cX2_clear 23 = .ok (.iconst 0, 1) := by decide +kernel
theorem dX2_clear_24 : decode cX2_clear 24 = .ok (.iastore, 1) := by decide +kernel
theorem dX2_clear_25 : decode cX2_clear 25 = .ok (.iinc 3 1, 3) := by decide +kernel
theorem dX2_clear_28 : decode cX2_clear 28 = .ok (.goto (-16), 3) := by decide +kernel
theorem dX2_clear_31 : decode cX2_clear 31 = .ok (.return_, 1) := by decide +kernel
def f_X2_clear_12 (fu : Nat)  : Nat → Nat → Int32 → Mem → Option Mem
  | 0, _, _, _ => none
  | n + 1, i0, x3, m => if 24 ≤ x3 then (some m) else (chk (inb x3 24) (seqM (upd m ((500 + 24 * i0) + x3.toNatClampNeg) 0) (fun m_2 : Mem => seqM (x3 + 1) (fun x_4 : Int32 => f_X2_clear_12 fu n i0 x_4 m_2))))
set_option maxHeartbeats 4000000 in
set_option maxRecDepth 100000 in
theorem w_X2_clear_12 {X : TX} {p : Program} {l : Launch} {e : Env} {s : State} {mi : MethodId} {args : Array Value} {below : List Frame} {meth : Method} {c : Code} {Q : State → Prop} {mE : Mem} (C : Cx X p s mi args c RX2 cX2_clear 4) (hq : RetV X p l e (rmD 0) s mi args below meth c cX2_clear Q mE) {fu : Nat} : ∀ (n : Nat) {i0 : Nat} {x3 : Int32} {m : Mem} {H : Heap} {locs : List Loc} {ls : Array Slot}, f_X2_clear_12 fu n i0 x3 m = some mE → (15, i0) ∈ ids → Wd X s m H locs → lv_has ls 4 [(0, .ref (ad X 15 i0)), (3, .int x3)] → W p l e (rmD 0) s mi args below meth c H locs 0 0 Q (F0 mi 12 ls []) := by
  intro n
  induction n with
  | zero =>
    intro i0 x3 m H locs ls h g_i0 hW hl
    rw [f_X2_clear_12] at h
    cases h
  | succ n ih =>
    intro i0 x3 m H locs ls h g_i0 hW hl
    rw [f_X2_clear_12] at h
    refine lv_iload_n C.1 C.2.1 dX2_clear_12 rfl (lv_at hl 1 rfl) ?_
    refine lv_bipush (v := 24) C.1 C.2.1 dX2_clear_13 rfl ?_
    refine lv_icmp_ge (tgt := 31) C.1 C.2.1 dX2_clear_15 (by decide) (fun hc_6 => ?_) (fun hc_6 => ?_)
    · have h := ite_t hc_6 h
      exact ret_v h hq hW dX2_clear_31
    · have h := ite_f hc_6 h
      refine lv_aload_n C.1 C.2.1 dX2_clear_18 rfl (lv_at hl 0 rfl) ?_
      refine zg_X2_places C hW g_i0 w_324 dX2_clear_19 ?_
      refine lv_iload_n C.1 C.2.1 dX2_clear_22 rfl (lv_at hl 1 rfl) ?_
      refine lv_iconst (v := 0) C.1 C.2.1 dX2_clear_23 rfl ?_
      obtain ⟨hb_1, h⟩ := chk_E h
      obtain ⟨m_2, e_3, h⟩ := seqM_E h
      refine zas_16 C hW (im_15_16 g_i0) (inb_E hb_1) e_3 dX2_clear_24 (fun H locs hW => ?_)
      obtain ⟨x_4, e_5, h⟩ := seqM_E h
      refine lv_iinc (v := x_4) (lv' := [(3, .int x_4), (0, .ref (ad X 15 i0))]) C.1 C.2.1 dX2_clear_25 hl (k := 1) rfl (by rw [e_5]; rfl) (by decide) rfl (fun ls hl => ?_)
      refine lv_goto (tgt := 12) C.1 C.2.1 dX2_clear_28 (by decide) ?_
      exact ih h g_i0 hW (lv_sub hl [1, 0] rfl)
def f_X2_clear (fu : Nat)  (i0 : Nat) (x1 : Int32) (x2 : Int32) (m : Mem) : Option Mem := seqM (upd m (hf i0 0) x1) (fun m_1 : Mem => seqM (upd m_1 (hf i0 1) x2) (fun m_3 : Mem => f_X2_clear_12 fu fu i0 0 m_3))
set_option maxHeartbeats 4000000 in
set_option maxRecDepth 100000 in
theorem w_X2_clear {X : TX} {p : Program} {l : Launch} {e : Env} {s : State} {mi : MethodId} {args : Array Value} {below : List Frame} {meth : Method} {c : Code} {Q : State → Prop} {mE : Mem} (C : Cx X p s mi args c RX2 cX2_clear 4) (hq : RetV X p l e (rmD 0) s mi args below meth c cX2_clear Q mE) {fu : Nat} {i0 : Nat} {x1 : Int32} {x2 : Int32} {m : Mem} {H : Heap} {locs : List Loc} {ls : Array Slot} (h : f_X2_clear fu i0 x1 x2 m = some mE) (g_i0 : (15, i0) ∈ ids) (hW : Wd X s m H locs) (hl : lv_has ls 4 [(0, .ref (ad X 15 i0)), (1, .int x1), (2, .int x2)]) : W p l e (rmD 0) s mi args below meth c H locs 0 0 Q (F0 mi 0 ls []) := by
  unfold f_X2_clear at h
  refine lv_aload_n C.1 C.2.1 dX2_clear_0 rfl (lv_at hl 0 rfl) ?_
  refine lv_iload_n C.1 C.2.1 dX2_clear_1 rfl (lv_at hl 1 rfl) ?_
  obtain ⟨m_1, e_2, h⟩ := seqM_E h
  refine zp_X2_sort C hW g_i0 w_320 e_2 dX2_clear_2 (fun H locs hW => ?_)
  refine lv_aload_n C.1 C.2.1 dX2_clear_5 rfl (lv_at hl 0 rfl) ?_
  refine lv_iload_n C.1 C.2.1 dX2_clear_6 rfl (lv_at hl 2 rfl) ?_
  obtain ⟨m_3, e_4, h⟩ := seqM_E h
  refine zp_X2_size C hW g_i0 w_322 e_4 dX2_clear_7 (fun H locs hW => ?_)
  refine lv_iconst (v := 0) C.1 C.2.1 dX2_clear_10 rfl ?_
  refine lv_istore_n (lv' := [(3, .int 0), (0, .ref (ad X 15 i0)), (1, .int x1), (2, .int x2)]) C.1 C.2.1 dX2_clear_11 rfl hl (by decide) rfl (fun ls hl => ?_)
  exact w_X2_clear_12 C hq  fu h g_i0 hW (lv_sub hl [1, 0] rfl)
theorem c_X2_clear {X : TX} {l : Launch} {fu : Nat} {i0 : Nat} {x1 : Int32} {x2 : Int32} {m mE : Mem} (h : f_X2_clear fu i0 x1 x2 m = some mE) (g_i0 : (15, i0) ∈ ids) : MetV X l yX2_clear cX2_clear 4 0 [.ref (ad X 15 i0), .int x1, .int x2] m mE :=
  met_V (by decide) (Nat.le_of_ble_eq_true rfl) (fun p e s mi args below meth c ls Q C hq hW hl => w_X2_clear C hq h g_i0 hW (lv_sub hl [0, 1, 2] rfl))
theorem k_X2_clear : CalV yX2_clear cX2_clear 4 none RX2 2 := ⟨w_912, w_913, w_68, w_914, by decide +kernel⟩
theorem dX2_become_0 : decode cX2_become 0 = .ok (.aload_n 0, 1) := by decide +kernel
theorem dX2_become_1 : decode cX2_become 1 = .ok (.aload_n 1, 1) := by decide +kernel
theorem dX2_become_2 : decode cX2_become 2 = .ok (.getfield 9, 3) := by decide +kernel
theorem dX2_become_5 : decode cX2_become 5 = .ok (.putfield 9, 3) := by decide +kernel
theorem dX2_become_8 : decode cX2_become 8 = .ok (.aload_n 0, 1) := by decide +kernel
theorem dX2_become_9 : decode cX2_become 9 = .ok (.aload_n 1, 1) := by decide +kernel
theorem dX2_become_10 : decode cX2_become 10 = .ok (.getfield 19, 3) := by decide +kernel
theorem dX2_become_13 : decode cX2_become 13 = .ok (.putfield 19, 3) := by decide +kernel
theorem dX2_become_16 : decode cX2_become 16 = .ok (.aload_n 1, 1) := by decide +kernel
theorem dX2_become_17 : decode cX2_become 17 = .ok (.getfield 15, 3) := by decide +kernel
theorem dX2_become_20 : decode cX2_become 20 = .ok (.iconst 0, 1) := by decide +kernel
theorem dX2_become_21 : decode cX2_become 21 = .ok (.aload_n 0, 1) := by decide +kernel
theorem dX2_become_22 : decode cX2_become 22 = .ok (.getfield 15, 3) := by decide +kernel
theorem dX2_become_25 : decode cX2_become 25 = .ok (.iconst 0, 1) := by decide +kernel
theorem dX2_become_26 : decode cX2_become 26 = .ok (.bipush 24, 2) := by decide +kernel
theorem dX2_become_28 : decode cX2_become 28 = .ok (.invokestatic 22, 3) := by decide +kernel
theorem dX2_become_31 : decode cX2_become 31 = .ok (.return_, 1) := by decide +kernel
def f_X2_become (fu : Nat)  (i0 : Nat) (i1 : Nat) (m : Mem) : Option Mem := seqM (upd m (hf i0 0) (m (hf i1 0))) (fun m_1 : Mem => seqM (upd m_1 (hf i0 1) (m_1 (hf i1 1))) (fun m_3 : Mem => chk (okCp 0 0 24 24 24) (seqM (cpM m_3 (500 + 24 * i1) (500 + 24 * i0) 0 0 24) (fun m_6 : Mem => some m_6))))
set_option maxHeartbeats 4000000 in
set_option maxRecDepth 100000 in
theorem w_X2_become {X : TX} {p : Program} {l : Launch} {e : Env} {s : State} {mi : MethodId} {args : Array Value} {below : List Frame} {meth : Method} {c : Code} {Q : State → Prop} {mE : Mem} (C : Cx X p s mi args c RX2 cX2_become 2) (hq : RetV X p l e (rmD 2) s mi args below meth c cX2_become Q mE) {fu : Nat} {i0 : Nat} {i1 : Nat} {m : Mem} {H : Heap} {locs : List Loc} {ls : Array Slot} (h : f_X2_become fu i0 i1 m = some mE) (g_i0 : (15, i0) ∈ ids) (g_i1 : (15, i1) ∈ ids) (hW : Wd X s m H locs) (hl : lv_has ls 2 [(0, .ref (ad X 15 i0)), (1, .ref (ad X 15 i1))]) : W p l e (rmD 2) s mi args below meth c H locs 0 0 Q (F0 mi 0 ls []) := by
  unfold f_X2_become at h
  refine lv_aload_n C.1 C.2.1 dX2_become_0 rfl (lv_at hl 0 rfl) ?_
  refine lv_aload_n C.1 C.2.1 dX2_become_1 rfl (lv_at hl 1 rfl) ?_
  refine zg_X2_sort C hW g_i1 w_320 dX2_become_2 ?_
  obtain ⟨m_1, e_2, h⟩ := seqM_E h
  refine zp_X2_sort C hW g_i0 w_320 e_2 dX2_become_5 (fun H locs hW => ?_)
  refine lv_aload_n C.1 C.2.1 dX2_become_8 rfl (lv_at hl 0 rfl) ?_
  refine lv_aload_n C.1 C.2.1 dX2_become_9 rfl (lv_at hl 1 rfl) ?_
  refine zg_X2_size C hW g_i1 w_322 dX2_become_10 ?_
  obtain ⟨m_3, e_4, h⟩ := seqM_E h
  refine zp_X2_size C hW g_i0 w_322 e_4 dX2_become_13 (fun H locs hW => ?_)
  refine lv_aload_n C.1 C.2.1 dX2_become_16 rfl (lv_at hl 1 rfl) ?_
  refine zg_X2_places C hW g_i1 w_324 dX2_become_17 ?_
  refine lv_iconst (v := 0) C.1 C.2.1 dX2_become_20 rfl ?_
  refine lv_aload_n C.1 C.2.1 dX2_become_21 rfl (lv_at hl 0 rfl) ?_
  refine zg_X2_places C hW g_i0 w_324 dX2_become_22 ?_
  refine lv_iconst (v := 0) C.1 C.2.1 dX2_become_25 rfl ?_
  refine lv_bipush (v := 24) C.1 C.2.1 dX2_become_26 rfl ?_
  obtain ⟨hb_5, h⟩ := chk_E h
  obtain ⟨m_6, e_7, h⟩ := seqM_E h
  refine zcp_16 C hW (im_15_16 g_i1) (im_15_16 g_i0) w_954 hb_5 e_7 hl.1 (Nat.le_of_ble_eq_true rfl) (Nat.le_of_ble_eq_true rfl) dX2_become_28 (fun H locs hW => ?_)
  exact ret_v h hq hW dX2_become_31
theorem c_X2_become {X : TX} {l : Launch} {fu : Nat} {i0 : Nat} {i1 : Nat} {m mE : Mem} (h : f_X2_become fu i0 i1 m = some mE) (g_i0 : (15, i0) ∈ ids) (g_i1 : (15, i1) ∈ ids) : MetV X l yX2_become cX2_become 2 2 [.ref (ad X 15 i0), .ref (ad X 15 i1)] m mE :=
  met_V (by decide) (Nat.le_of_ble_eq_true rfl) (fun p e s mi args below meth c ls Q C hq hW hl => w_X2_become C hq h g_i0 g_i1 hW (lv_sub hl [0, 1] rfl))
theorem k_X2_become : CalV yX2_become cX2_become 2 none RX2 1 := ⟨w_951, w_952, w_68, w_953, by decide +kernel⟩
theorem dX2_isMissing_0 : decode cX2_isMissing 0 = .ok (.aload_n 0, 1) := by decide +kernel
theorem dX2_isMissing_1 : decode cX2_isMissing 1 = .ok (.getfield 9, 3) := by decide +kernel
theorem dX2_isMissing_4 : decode cX2_isMissing 4 = .ok (.iconst (-1), 1) := by decide +kernel
theorem dX2_isMissing_5 : decode cX2_isMissing 5 = .ok (.if_icmp .ne 7, 3) := by decide +kernel
theorem dX2_isMissing_8 : decode cX2_isMissing 8 = .ok (.iconst 1, 1) := by decide +kernel
theorem dX2_isMissing_9 : decode cX2_isMissing 9 = .ok (.goto 4, 3) := by decide +kernel
theorem dX2_isMissing_12 : decode cX2_isMissing 12 = .ok (.iconst 0, 1) := by decide +kernel
theorem dX2_isMissing_13 : decode cX2_isMissing 13 = .ok (.ireturn, 1) := by decide +kernel
def f_X2_isMissing (fu : Nat)  (i0 : Nat) (m : Mem) : Option (Int32 × Mem) := if (m (hf i0 0)) = (-1) then (some (1, m)) else (some (0, m))
set_option maxHeartbeats 4000000 in
set_option maxRecDepth 100000 in
theorem w_X2_isMissing {X : TX} {p : Program} {l : Launch} {e : Env} {s : State} {mi : MethodId} {args : Array Value} {below : List Frame} {meth : Method} {c : Code} {Q : State → Prop} {r : Int32} {mE : Mem} (C : Cx X p s mi args c RX2 cX2_isMissing 1) (hq : RetI X p l e (rmD 0) s mi args below meth c cX2_isMissing .boolean Q r mE) {fu : Nat} {i0 : Nat} {m : Mem} {H : Heap} {locs : List Loc} {ls : Array Slot} (h : f_X2_isMissing fu i0 m = some (r, mE)) (g_i0 : (15, i0) ∈ ids) (hW : Wd X s m H locs) (hl : lv_has ls 1 [(0, .ref (ad X 15 i0))]) : W p l e (rmD 0) s mi args below meth c H locs 0 0 Q (F0 mi 0 ls []) := by
  unfold f_X2_isMissing at h
  refine lv_aload_n C.1 C.2.1 dX2_isMissing_0 rfl (lv_at hl 0 rfl) ?_
  refine zg_X2_sort C hW g_i0 w_320 dX2_isMissing_1 ?_
  refine lv_iconst (v := (-1)) C.1 C.2.1 dX2_isMissing_4 rfl ?_
  refine lv_icmp_ne (tgt := 12) C.1 C.2.1 dX2_isMissing_5 (by decide) (fun hc_1 => ?_) (fun hc_1 => ?_)
  · have h := ite_f hc_1 h
    refine lv_iconst (v := 0) C.1 C.2.1 dX2_isMissing_12 rfl ?_
    exact ret_i h hq rfl hW dX2_isMissing_13
  · have h := ite_t hc_1 h
    refine lv_iconst (v := 1) C.1 C.2.1 dX2_isMissing_8 rfl ?_
    refine lv_goto (tgt := 13) C.1 C.2.1 dX2_isMissing_9 (by decide) ?_
    exact ret_i h hq rfl hW dX2_isMissing_13
theorem c_X2_isMissing {X : TX} {l : Launch} {fu : Nat} {i0 : Nat} {m mE : Mem} {r : Int32} (h : f_X2_isMissing fu i0 m = some (r, mE)) (g_i0 : (15, i0) ∈ ids) : MetI X l yX2_isMissing cX2_isMissing 1 .boolean 0 [.ref (ad X 15 i0)] m r mE :=
  met_I (by decide) (Nat.le_of_ble_eq_true rfl) (fun p e s mi args below meth c ls Q C hq hW hl => w_X2_isMissing C hq h g_i0 hW (lv_sub hl [0] rfl))
theorem k_X2_isMissing : CalV yX2_isMissing cX2_isMissing 1 (some .boolean) RX2 0 := ⟨w_655, w_656, w_68, w_657, by decide +kernel⟩
theorem dX2_hasPlace_0 : decode cX2_hasPlace 0 = .ok (.iload_n 1, 1) := by decide +kernel
theorem dX2_hasPlace_1 : decode cX2_hasPlace 1 = .ok (.ifCond .lt 15, 3) := by decide +kernel
theorem dX2_hasPlace_4 : decode cX2_hasPlace 4 = .ok (.iload_n 1, 1) := by decide +kernel
theorem dX2_hasPlace_5 : decode cX2_hasPlace 5 = .ok (.aload_n 0, 1) := by decide +kernel
theorem dX2_hasPlace_6 : decode cX2_hasPlace 6 = .ok (.getfield 19, 3) := by decide +kernel
theorem dX2_hasPlace_9 : decode cX2_hasPlace 9 = .ok (.if_icmp .ge 7, 3) := by decide +kernel
theorem dX2_hasPlace_12 : decode cX2_hasPlace 12 = .ok (.iconst 1, 1) := by decide +kernel
theorem dX2_hasPlace_13 : decode cX2_hasPlace 13 = .ok (.goto 4, 3) := by decide +kernel
theorem dX2_hasPlace_16 : decode cX2_hasPlace 16 = .ok (.iconst 0, 1) := by decide +kernel
theorem dX2_hasPlace_17 : decode cX2_hasPlace 17 = .ok (.ireturn, 1) := by decide +kernel
def f_X2_hasPlace (fu : Nat)  (i0 : Nat) (x1 : Int32) (m : Mem) : Option (Int32 × Mem) := if x1 < 0 then (some (0, m)) else (if (m (hf i0 1)) ≤ x1 then (some (0, m)) else (some (1, m)))
set_option maxHeartbeats 4000000 in
set_option maxRecDepth 100000 in
theorem w_X2_hasPlace {X : TX} {p : Program} {l : Launch} {e : Env} {s : State} {mi : MethodId} {args : Array Value} {below : List Frame} {meth : Method} {c : Code} {Q : State → Prop} {r : Int32} {mE : Mem} (C : Cx X p s mi args c RX2 cX2_hasPlace 2) (hq : RetI X p l e (rmD 0) s mi args below meth c cX2_hasPlace .boolean Q r mE) {fu : Nat} {i0 : Nat} {x1 : Int32} {m : Mem} {H : Heap} {locs : List Loc} {ls : Array Slot} (h : f_X2_hasPlace fu i0 x1 m = some (r, mE)) (g_i0 : (15, i0) ∈ ids) (hW : Wd X s m H locs) (hl : lv_has ls 2 [(0, .ref (ad X 15 i0)), (1, .int x1)]) : W p l e (rmD 0) s mi args below meth c H locs 0 0 Q (F0 mi 0 ls []) := by
  unfold f_X2_hasPlace at h
  refine lv_iload_n C.1 C.2.1 dX2_hasPlace_0 rfl (lv_at hl 1 rfl) ?_
  refine lv_if_lt (tgt := 16) C.1 C.2.1 dX2_hasPlace_1 (by decide) (fun hc_2 => ?_) (fun hc_2 => ?_)
  · have h := ite_t hc_2 h
    refine lv_iconst (v := 0) C.1 C.2.1 dX2_hasPlace_16 rfl ?_
    exact ret_i h hq rfl hW dX2_hasPlace_17
  · have h := ite_f hc_2 h
    refine lv_iload_n C.1 C.2.1 dX2_hasPlace_4 rfl (lv_at hl 1 rfl) ?_
    refine lv_aload_n C.1 C.2.1 dX2_hasPlace_5 rfl (lv_at hl 0 rfl) ?_
    refine zg_X2_size C hW g_i0 w_322 dX2_hasPlace_6 ?_
    refine lv_icmp_ge (tgt := 16) C.1 C.2.1 dX2_hasPlace_9 (by decide) (fun hc_1 => ?_) (fun hc_1 => ?_)
    · have h := ite_t hc_1 h
      refine lv_iconst (v := 0) C.1 C.2.1 dX2_hasPlace_16 rfl ?_
      exact ret_i h hq rfl hW dX2_hasPlace_17
    · have h := ite_f hc_1 h
      refine lv_iconst (v := 1) C.1 C.2.1 dX2_hasPlace_12 rfl ?_
      refine lv_goto (tgt := 17) C.1 C.2.1 dX2_hasPlace_13 (by decide) ?_
      exact ret_i h hq rfl hW dX2_hasPlace_17
theorem c_X2_hasPlace {X : TX} {l : Launch} {fu : Nat} {i0 : Nat} {x1 : Int32} {m mE : Mem} {r : Int32} (h : f_X2_hasPlace fu i0 x1 m = some (r, mE)) (g_i0 : (15, i0) ∈ ids) : MetI X l yX2_hasPlace cX2_hasPlace 2 .boolean 0 [.ref (ad X 15 i0), .int x1] m r mE :=
  met_I (by decide) (Nat.le_of_ble_eq_true rfl) (fun p e s mi args below meth c ls Q C hq hW hl => w_X2_hasPlace C hq h g_i0 hW (lv_sub hl [0, 1] rfl))
theorem k_X2_hasPlace : CalV yX2_hasPlace cX2_hasPlace 2 (some .boolean) RX2 1 := ⟨w_668, w_669, w_68, w_670, by decide +kernel⟩
theorem dX2_hasPlaces_0 : decode cX2_hasPlaces 0 = .ok (.iload_n 2, 1) := by decide +kernel
theorem dX2_hasPlaces_1 : decode cX2_hasPlaces 1 = .ok (.ifCond .lt 29, 3) := by decide +kernel
theorem dX2_hasPlaces_4 : decode cX2_hasPlaces 4 = .ok (.iload_n 2, 1) := by decide +kernel
theorem dX2_hasPlaces_5 : decode cX2_hasPlaces 5 = .ok (.aload_n 0, 1) := by decide +kernel
theorem dX2_hasPlaces_6 : decode cX2_hasPlaces 6 = .ok (.getfield 19, 3) := by decide +kernel
theorem dX2_hasPlaces_9 : decode cX2_hasPlaces 9 = .ok (.if_icmp .gt 21, 3) := by decide +kernel
theorem dX2_hasPlaces_12 : decode cX2_hasPlaces 12 = .ok (.iload_n 1, 1) := by decide +kernel
theorem dX2_hasPlaces_13 : decode cX2_hasPlaces 13 = .ok (.ifCond .lt 17, 3) := by decide +kernel
theorem dX2_hasPlaces_16 : decode cX2_hasPlaces 16 = .ok (.iload_n 1, 1) := by decide +kernel
theorem dX2_hasPlaces_17 : decode cX2_hasPlaces 17 = .ok (.aload_n 0, 1) := by decide +kernel
theorem dX2_hasPlaces_18 : decode cX2_hasPlaces 18 = .ok (.getfield 19, 3) := by decide +kernel
theorem dX2_hasPlaces_21 : decode cX2_hasPlaces 21 = .ok (.iload_n 2, 1) := by decide +kernel
theorem dX2_hasPlaces_22 : decode cX2_hasPlaces 22 = .ok (.isub, 1) := by decide +kernel
theorem dX2_hasPlaces_23 : decode cX2_hasPlaces 23 = .ok (.if_icmp .gt 7, 3) := by decide +kernel
theorem dX2_hasPlaces_26 : decode cX2_hasPlaces 26 = .ok (.iconst 1, 1) := by decide +kernel
theorem dX2_hasPlaces_27 : decode cX2_hasPlaces 27 = .ok (.goto 4, 3) := by decide +kernel
theorem dX2_hasPlaces_30 : decode cX2_hasPlaces 30 = .ok (.iconst 0, 1) := by decide +kernel
theorem dX2_hasPlaces_31 : decode cX2_hasPlaces 31 = .ok (.ireturn, 1) := by decide +kernel
def f_X2_hasPlaces (fu : Nat)  (i0 : Nat) (x1 : Int32) (x2 : Int32) (m : Mem) : Option (Int32 × Mem) := if x2 < 0 then (some (0, m)) else (if (m (hf i0 1)) < x2 then (some (0, m)) else (if x1 < 0 then (some (0, m)) else (if ((m (hf i0 1)) - x2) < x1 then (some (0, m)) else (some (1, m)))))
set_option maxHeartbeats 4000000 in
set_option maxRecDepth 100000 in
theorem w_X2_hasPlaces {X : TX} {p : Program} {l : Launch} {e : Env} {s : State} {mi : MethodId} {args : Array Value} {below : List Frame} {meth : Method} {c : Code} {Q : State → Prop} {r : Int32} {mE : Mem} (C : Cx X p s mi args c RX2 cX2_hasPlaces 3) (hq : RetI X p l e (rmD 0) s mi args below meth c cX2_hasPlaces .boolean Q r mE) {fu : Nat} {i0 : Nat} {x1 : Int32} {x2 : Int32} {m : Mem} {H : Heap} {locs : List Loc} {ls : Array Slot} (h : f_X2_hasPlaces fu i0 x1 x2 m = some (r, mE)) (g_i0 : (15, i0) ∈ ids) (hW : Wd X s m H locs) (hl : lv_has ls 3 [(0, .ref (ad X 15 i0)), (1, .int x1), (2, .int x2)]) : W p l e (rmD 0) s mi args below meth c H locs 0 0 Q (F0 mi 0 ls []) := by
  unfold f_X2_hasPlaces at h
  refine lv_iload_n C.1 C.2.1 dX2_hasPlaces_0 rfl (lv_at hl 2 rfl) ?_
  refine lv_if_lt (tgt := 30) C.1 C.2.1 dX2_hasPlaces_1 (by decide) (fun hc_4 => ?_) (fun hc_4 => ?_)
  · have h := ite_t hc_4 h
    refine lv_iconst (v := 0) C.1 C.2.1 dX2_hasPlaces_30 rfl ?_
    exact ret_i h hq rfl hW dX2_hasPlaces_31
  · have h := ite_f hc_4 h
    refine lv_iload_n C.1 C.2.1 dX2_hasPlaces_4 rfl (lv_at hl 2 rfl) ?_
    refine lv_aload_n C.1 C.2.1 dX2_hasPlaces_5 rfl (lv_at hl 0 rfl) ?_
    refine zg_X2_size C hW g_i0 w_322 dX2_hasPlaces_6 ?_
    refine lv_icmp_gt (tgt := 30) C.1 C.2.1 dX2_hasPlaces_9 (by decide) (fun hc_3 => ?_) (fun hc_3 => ?_)
    · have h := ite_t hc_3 h
      refine lv_iconst (v := 0) C.1 C.2.1 dX2_hasPlaces_30 rfl ?_
      exact ret_i h hq rfl hW dX2_hasPlaces_31
    · have h := ite_f hc_3 h
      refine lv_iload_n C.1 C.2.1 dX2_hasPlaces_12 rfl (lv_at hl 1 rfl) ?_
      refine lv_if_lt (tgt := 30) C.1 C.2.1 dX2_hasPlaces_13 (by decide) (fun hc_2 => ?_) (fun hc_2 => ?_)
      · have h := ite_t hc_2 h
        refine lv_iconst (v := 0) C.1 C.2.1 dX2_hasPlaces_30 rfl ?_
        exact ret_i h hq rfl hW dX2_hasPlaces_31
      · have h := ite_f hc_2 h
        refine lv_iload_n C.1 C.2.1 dX2_hasPlaces_16 rfl (lv_at hl 1 rfl) ?_
        refine lv_aload_n C.1 C.2.1 dX2_hasPlaces_17 rfl (lv_at hl 0 rfl) ?_
        refine zg_X2_size C hW g_i0 w_322 dX2_hasPlaces_18 ?_
        refine lv_iload_n C.1 C.2.1 dX2_hasPlaces_21 rfl (lv_at hl 2 rfl) ?_
        refine lv_isub C.1 C.2.1 dX2_hasPlaces_22 ?_
        refine lv_icmp_gt (tgt := 30) C.1 C.2.1 dX2_hasPlaces_23 (by decide) (fun hc_1 => ?_) (fun hc_1 => ?_)
        · have h := ite_t hc_1 h
          refine lv_iconst (v := 0) C.1 C.2.1 dX2_hasPlaces_30 rfl ?_
          exact ret_i h hq rfl hW dX2_hasPlaces_31
        · have h := ite_f hc_1 h
          refine lv_iconst (v := 1) C.1 C.2.1 dX2_hasPlaces_26 rfl ?_
          refine lv_goto (tgt := 31) C.1 C.2.1 dX2_hasPlaces_27 (by decide) ?_
          exact ret_i h hq rfl hW dX2_hasPlaces_31
theorem c_X2_hasPlaces {X : TX} {l : Launch} {fu : Nat} {i0 : Nat} {x1 : Int32} {x2 : Int32} {m mE : Mem} {r : Int32} (h : f_X2_hasPlaces fu i0 x1 x2 m = some (r, mE)) (g_i0 : (15, i0) ∈ ids) : MetI X l yX2_hasPlaces cX2_hasPlaces 3 .boolean 0 [.ref (ad X 15 i0), .int x1, .int x2] m r mE :=
  met_I (by decide) (Nat.le_of_ble_eq_true rfl) (fun p e s mi args below meth c ls Q C hq hW hl => w_X2_hasPlaces C hq h g_i0 hW (lv_sub hl [0, 1, 2] rfl))
theorem k_X2_hasPlaces : CalV yX2_hasPlaces cX2_hasPlaces 3 (some .boolean) RX2 2 := ⟨w_938, w_939, w_68, w_940, by decide +kernel⟩
theorem dX2_isNumber_0 : decode cX2_isNumber 0 = .ok (.aload_n 0, 1) := by decide +kernel
theorem dX2_isNumber_1 : decode cX2_isNumber 1 = .ok (.iload_n 1, 1) := by decide +kernel
theorem dX2_isNumber_2 : decode cX2_isNumber 2 = .ok (.invokevirtual 28, 3) := by decide +kernel
theorem dX2_isNumber_5 : decode cX2_isNumber 5 = .ok (.ifCond .eq 18, 3) := by decide +kernel
theorem dX2_isNumber_8 : decode cX2_isNumber 8 = .ok (.aload_n 0, 1) := by decide +kernel
theorem dX2_isNumber_9 : decode cX2_isNumber 9 = .ok (.getfield 15, 3) := by decide +kernel
theorem dX2_isNumber_12 : decode cX2_isNumber 12 = .ok (.iload_n 1, 1) := by decide +kernel
theorem dX2_isNumber_13 : decode cX2_isNumber 13 = .ok (.iaload, 1) := by decide +kernel
theorem dX2_isNumber_14 : decode cX2_isNumber 14 = .ok (.ldc 32, 2) := by decide +kernel
theorem dX2_isNumber_16 : decode cX2_isNumber 16 = .ok (.if_icmp .eq 7, 3) := by decide +kernel
theorem dX2_isNumber_19 : decode cX2_isNumber 19 = .ok (.iconst 1, 1) := by decide +kernel
theorem dX2_isNumber_20 : decode cX2_isNumber 20 = .ok (.goto 4, 3) := by decide +kernel
theorem dX2_isNumber_23 : decode cX2_isNumber 23 = .ok (.iconst 0, 1) := by decide +kernel
theorem dX2_isNumber_24 : decode cX2_isNumber 24 = .ok (.ireturn, 1) := by decide +kernel
def f_X2_isNumber (fu : Nat)  (i0 : Nat) (x1 : Int32) (m : Mem) : Option (Int32 × Mem) := doI (f_X2_hasPlace fu i0 x1 m) (fun r_3 m_2 => if r_3 = 0 then (some (0, m_2)) else (chk (inb x1 24) (if (m_2 ((500 + 24 * i0) + x1.toNatClampNeg)) = (-1000000005) then (some (0, m_2)) else (some (1, m_2)))))
set_option maxHeartbeats 4000000 in
set_option maxRecDepth 100000 in
theorem w_X2_isNumber {X : TX} {p : Program} {l : Launch} {e : Env} {s : State} {mi : MethodId} {args : Array Value} {below : List Frame} {meth : Method} {c : Code} {Q : State → Prop} {r : Int32} {mE : Mem} (C : Cx X p s mi args c RX2 cX2_isNumber 2) (hq : RetI X p l e (rmD 1) s mi args below meth c cX2_isNumber .boolean Q r mE) {fu : Nat} {i0 : Nat} {x1 : Int32} {m : Mem} {H : Heap} {locs : List Loc} {ls : Array Slot} (h : f_X2_isNumber fu i0 x1 m = some (r, mE)) (g_i0 : (15, i0) ∈ ids) (hW : Wd X s m H locs) (hl : lv_has ls 2 [(0, .ref (ad X 15 i0)), (1, .int x1)]) : W p l e (rmD 1) s mi args below meth c H locs 0 0 Q (F0 mi 0 ls []) := by
  unfold f_X2_isNumber at h
  refine lv_aload_n C.1 C.2.1 dX2_isNumber_0 rfl (lv_at hl 0 rfl) ?_
  refine lv_iload_n C.1 C.2.1 dX2_isNumber_1 rfl (lv_at hl 1 rfl) ?_
  obtain ⟨r_3, m_2, hc_1, h⟩ := doI_E h
  refine zr_cVI C hW (c_X2_hasPlace (i0 := i0) (x1 := x1) hc_1 g_i0) k_X2_hasPlace (zr_recv C hW g_i0 zco_15 rfl) w_667 ⟨Nat.le_of_ble_eq_true rfl, Nat.le_of_ble_eq_true rfl⟩ ⟨Nat.le_refl 0, Nat.le_refl 0⟩ rfl hl.1 rfl (Nat.le_of_ble_eq_true rfl) dX2_isNumber_2 (fun H locs hW => ?_)
  refine lv_if_eq (tgt := 23) C.1 C.2.1 dX2_isNumber_5 (by decide) (fun hc_6 => ?_) (fun hc_6 => ?_)
  · have h := ite_t hc_6 h
    refine lv_iconst (v := 0) C.1 C.2.1 dX2_isNumber_23 rfl ?_
    exact ret_i h hq rfl hW dX2_isNumber_24
  · have h := ite_f hc_6 h
    refine lv_aload_n C.1 C.2.1 dX2_isNumber_8 rfl (lv_at hl 0 rfl) ?_
    refine zg_X2_places C hW g_i0 w_324 dX2_isNumber_9 ?_
    refine lv_iload_n C.1 C.2.1 dX2_isNumber_12 rfl (lv_at hl 1 rfl) ?_
    obtain ⟨hb_4, h⟩ := chk_E h
    refine zal_16 C hW (im_15_16 g_i0) (inb_E hb_4) dX2_isNumber_13 ?_
    refine lv_ldc C.1 C.2.1 C.2.2.2.1 (C.2.2.2.2.1 _ w_671) dX2_isNumber_14 ?_
    refine lv_icmp_eq (tgt := 23) C.1 C.2.1 dX2_isNumber_16 (by decide) (fun hc_5 => ?_) (fun hc_5 => ?_)
    · have h := ite_t hc_5 h
      refine lv_iconst (v := 0) C.1 C.2.1 dX2_isNumber_23 rfl ?_
      exact ret_i h hq rfl hW dX2_isNumber_24
    · have h := ite_f hc_5 h
      refine lv_iconst (v := 1) C.1 C.2.1 dX2_isNumber_19 rfl ?_
      refine lv_goto (tgt := 24) C.1 C.2.1 dX2_isNumber_20 (by decide) ?_
      exact ret_i h hq rfl hW dX2_isNumber_24
theorem c_X2_isNumber {X : TX} {l : Launch} {fu : Nat} {i0 : Nat} {x1 : Int32} {m mE : Mem} {r : Int32} (h : f_X2_isNumber fu i0 x1 m = some (r, mE)) (g_i0 : (15, i0) ∈ ids) : MetI X l yX2_isNumber cX2_isNumber 2 .boolean 1 [.ref (ad X 15 i0), .int x1] m r mE :=
  met_I (by decide) (Nat.le_of_ble_eq_true rfl) (fun p e s mi args below meth c ls Q C hq hW hl => w_X2_isNumber C hq h g_i0 hW (lv_sub hl [0, 1] rfl))
theorem k_X2_isNumber : CalV yX2_isNumber cX2_isNumber 2 (some .boolean) RX2 1 := ⟨w_664, w_665, w_68, w_666, by decide +kernel⟩
theorem dX3_finding_0 : decode cX3_finding 0 = .ok (.aload_n 0, 1) := by decide +kernel
theorem dX3_finding_1 : decode cX3_finding 1 = .ok (.getfield 25, 3) := by decide +kernel
theorem dX3_finding_4 : decode cX3_finding 4 = .ok (.ifCond .ne 6, 3) := by decide +kernel
theorem dX3_finding_7 : decode cX3_finding 7 = .ok (.ldc 29, 2) := by decide +kernel
theorem dX3_finding_9 : decode cX3_finding 9 = .ok (.ireturn, 1) := by decide +kernel
theorem dX3_finding_10 : decode cX3_finding 10 = .ok (.aload_n 0, 1) := by decide +kernel
theorem dX3_finding_11 : decode cX3_finding 11 = .ok (.getfield 25, 3) := by decide +kernel
theorem dX3_finding_14 : decode cX3_finding 14 = .ok (.iload_n 1, 1) := by decide +kernel
theorem dX3_finding_15 : decode cX3_finding 15 = .ok (.if_icmp .ne 7, 3) := by decide +kernel
theorem dX3_finding_18 : decode cX3_finding 18 = .ok (.iconst 0, 1) := by decide +kernel
theorem dX3_finding_19 : decode cX3_finding 19 = .ok (.goto 5, 3) := by decide +kernel
theorem dX3_finding_22 : decode cX3_finding 22 = .ok (.ldc 30, 2) := by decide +kernel
theorem dX3_finding_24 : decode cX3_finding 24 = .ok (.ireturn, 1) := by decide +kernel
def f_X3_finding (fu : Nat)  (i0 : Nat) (x1 : Int32) (m : Mem) : Option (Int32 × Mem) := if (m (lf i0 0)) = 0 then (some ((-1000000011), m)) else (if (m (lf i0 0)) = x1 then (some (0, m)) else (some ((-1000000012), m)))
set_option maxHeartbeats 4000000 in
set_option maxRecDepth 100000 in
theorem w_X3_finding {X : TX} {p : Program} {l : Launch} {e : Env} {s : State} {mi : MethodId} {args : Array Value} {below : List Frame} {meth : Method} {c : Code} {Q : State → Prop} {r : Int32} {mE : Mem} (C : Cx X p s mi args c RX3 cX3_finding 2) (hq : RetI X p l e (rmD 0) s mi args below meth c cX3_finding .int Q r mE) {fu : Nat} {i0 : Nat} {x1 : Int32} {m : Mem} {H : Heap} {locs : List Loc} {ls : Array Slot} (h : f_X3_finding fu i0 x1 m = some (r, mE)) (g_i0 : (18, i0) ∈ ids) (hW : Wd X s m H locs) (hl : lv_has ls 2 [(0, .ref (ad X 18 i0)), (1, .int x1)]) : W p l e (rmD 0) s mi args below meth c H locs 0 0 Q (F0 mi 0 ls []) := by
  unfold f_X3_finding at h
  refine lv_aload_n C.1 C.2.1 dX3_finding_0 rfl (lv_at hl 0 rfl) ?_
  refine zg_X3_thing C hW g_i0 w_344 dX3_finding_1 ?_
  refine lv_if_ne (tgt := 10) C.1 C.2.1 dX3_finding_4 (by decide) (fun hc_2 => ?_) (fun hc_2 => ?_)
  · have h := ite_f hc_2 h
    refine lv_aload_n C.1 C.2.1 dX3_finding_10 rfl (lv_at hl 0 rfl) ?_
    refine zg_X3_thing C hW g_i0 w_344 dX3_finding_11 ?_
    refine lv_iload_n C.1 C.2.1 dX3_finding_14 rfl (lv_at hl 1 rfl) ?_
    refine lv_icmp_ne (tgt := 22) C.1 C.2.1 dX3_finding_15 (by decide) (fun hc_1 => ?_) (fun hc_1 => ?_)
    · have h := ite_f hc_1 h
      refine lv_ldc C.1 C.2.1 C.2.2.2.1 (C.2.2.2.2.1 _ w_964) dX3_finding_22 ?_
      exact ret_i h hq rfl hW dX3_finding_24
    · have h := ite_t hc_1 h
      refine lv_iconst (v := 0) C.1 C.2.1 dX3_finding_18 rfl ?_
      refine lv_goto (tgt := 24) C.1 C.2.1 dX3_finding_19 (by decide) ?_
      exact ret_i h hq rfl hW dX3_finding_24
  · have h := ite_t hc_2 h
    refine lv_ldc C.1 C.2.1 C.2.2.2.1 (C.2.2.2.2.1 _ w_963) dX3_finding_7 ?_
    exact ret_i h hq rfl hW dX3_finding_9
theorem c_X3_finding {X : TX} {l : Launch} {fu : Nat} {i0 : Nat} {x1 : Int32} {m mE : Mem} {r : Int32} (h : f_X3_finding fu i0 x1 m = some (r, mE)) (g_i0 : (18, i0) ∈ ids) : MetI X l yX3_finding cX3_finding 2 .int 0 [.ref (ad X 18 i0), .int x1] m r mE :=
  met_I (by decide) (Nat.le_of_ble_eq_true rfl) (fun p e s mi args below meth c ls Q C hq hW hl => w_X3_finding C hq h g_i0 hW (lv_sub hl [0, 1] rfl))
theorem k_X3_finding : CalV yX3_finding cX3_finding 2 (some .int) RX3 1 := ⟨w_960, w_961, w_69, w_962, by decide +kernel⟩
theorem dX5_clear_0 : decode cX5_clear 0 = .ok (.aload_n 0, 1) := by decide +kernel
theorem dX5_clear_1 : decode cX5_clear 1 = .ok (.iconst (-1), 1) := by decide +kernel
theorem dX5_clear_2 : decode cX5_clear 2 = .ok (.putfield 15, 3) := by decide +kernel
theorem dX5_clear_5 : decode cX5_clear 5 = .ok (.aload_n 0, 1) := by decide +kernel
theorem dX5_clear_6 : decode cX5_clear 6 = .ok (.iconst 0, 1) := by decide +kernel
theorem dX5_clear_7 : decode cX5_clear 7 = .ok (.putfield 19, 3) := by decide +kernel
theorem dX5_clear_10 : decode cX5_clear 10 = .ok (.aload_n 0, 1) := by decide +kernel
theorem dX5_clear_11 : decode cX5_clear 11 = .ok (.iconst 0, 1) := by decide +kernel
theorem dX5_clear_12 : decode cX5_clear 12 = .ok (.putfield 22, 3) := by decide +kernel
theorem dX5_clear_15 : decode cX5_clear 15 = .ok (.return_, 1) := by decide +kernel
def f_X5_clear (fu : Nat)  (i0 : Nat) (m : Mem) : Option Mem := seqM (upd m (tf i0 0) (-1)) (fun m_1 : Mem => seqM (upd m_1 (tf i0 1) 0) (fun m_3 : Mem => seqM (upd m_3 (tf i0 2) 0) (fun m_5 : Mem => some m_5)))
set_option maxHeartbeats 4000000 in
set_option maxRecDepth 100000 in
theorem w_X5_clear {X : TX} {p : Program} {l : Launch} {e : Env} {s : State} {mi : MethodId} {args : Array Value} {below : List Frame} {meth : Method} {c : Code} {Q : State → Prop} {mE : Mem} (C : Cx X p s mi args c RX5 cX5_clear 1) (hq : RetV X p l e (rmD 0) s mi args below meth c cX5_clear Q mE) {fu : Nat} {i0 : Nat} {m : Mem} {H : Heap} {locs : List Loc} {ls : Array Slot} (h : f_X5_clear fu i0 m = some mE) (g_i0 : (3, i0) ∈ ids) (hW : Wd X s m H locs) (hl : lv_has ls 1 [(0, .ref (ad X 3 i0))]) : W p l e (rmD 0) s mi args below meth c H locs 0 0 Q (F0 mi 0 ls []) := by
  unfold f_X5_clear at h
  refine lv_aload_n C.1 C.2.1 dX5_clear_0 rfl (lv_at hl 0 rfl) ?_
  refine lv_iconst (v := (-1)) C.1 C.2.1 dX5_clear_1 rfl ?_
  obtain ⟨m_1, e_2, h⟩ := seqM_E h
  refine zp_X5_key C hW g_i0 w_100 e_2 dX5_clear_2 (fun H locs hW => ?_)
  refine lv_aload_n C.1 C.2.1 dX5_clear_5 rfl (lv_at hl 0 rfl) ?_
  refine lv_iconst (v := 0) C.1 C.2.1 dX5_clear_6 rfl ?_
  obtain ⟨m_3, e_4, h⟩ := seqM_E h
  refine zp_X5_atoms C hW g_i0 w_103 e_4 dX5_clear_7 (fun H locs hW => ?_)
  refine lv_aload_n C.1 C.2.1 dX5_clear_10 rfl (lv_at hl 0 rfl) ?_
  refine lv_iconst (v := 0) C.1 C.2.1 dX5_clear_11 rfl ?_
  obtain ⟨m_5, e_6, h⟩ := seqM_E h
  refine zp_X5_size C hW g_i0 w_106 e_6 dX5_clear_12 (fun H locs hW => ?_)
  exact ret_v h hq hW dX5_clear_15
theorem c_X5_clear {X : TX} {l : Launch} {fu : Nat} {i0 : Nat} {m mE : Mem} (h : f_X5_clear fu i0 m = some mE) (g_i0 : (3, i0) ∈ ids) : MetV X l yX5_clear cX5_clear 1 0 [.ref (ad X 3 i0)] m mE :=
  met_V (by decide) (Nat.le_of_ble_eq_true rfl) (fun p e s mi args below meth c ls Q C hq hW hl => w_X5_clear C hq h g_i0 hW (lv_sub hl [0] rfl))
theorem k_X5_clear : CalV yX5_clear cX5_clear 1 none RX5 0 := ⟨w_709, w_710, w_63, w_711, by decide +kernel⟩
theorem dX5_become_0 : decode cX5_become 0 = .ok (.aload_n 0, 1) := by decide +kernel
theorem dX5_become_1 : decode cX5_become 1 = .ok (.aload_n 1, 1) := by decide +kernel
theorem dX5_become_2 : decode cX5_become 2 = .ok (.getfield 15, 3) := by decide +kernel
theorem dX5_become_5 : decode cX5_become 5 = .ok (.putfield 15, 3) := by decide +kernel
theorem dX5_become_8 : decode cX5_become 8 = .ok (.aload_n 0, 1) := by decide +kernel
theorem dX5_become_9 : decode cX5_become 9 = .ok (.aload_n 1, 1) := by decide +kernel
theorem dX5_become_10 : decode cX5_become 10 = .ok (.getfield 19, 3) := by decide +kernel
theorem dX5_become_13 : decode cX5_become 13 = .ok (.putfield 19, 3) := by decide +kernel
theorem dX5_become_16 : decode cX5_become 16 = .ok (.aload_n 0, 1) := by decide +kernel
theorem dX5_become_17 : decode cX5_become 17 = .ok (.aload_n 1, 1) := by decide +kernel
theorem dX5_become_18 : decode cX5_become 18 = .ok (.getfield 22, 3) := by decide +kernel
theorem dX5_become_21 : decode cX5_become 21 = .ok (.putfield 22, 3) := by decide +kernel
theorem dX5_become_24 : decode cX5_become 24 = .ok (.aload_n 1, 1) := by decide +kernel
theorem dX5_become_25 : decode cX5_become 25 = .ok (.getfield 9, 3) := by decide +kernel
theorem dX5_become_28 : decode cX5_become 28 = .ok (.iconst 0, 1) := by decide +kernel
theorem dX5_become_29 : decode cX5_become 29 = .ok (.aload_n 0, 1) := by decide +kernel
theorem dX5_become_30 : decode cX5_become 30 = .ok (.getfield 9, 3) := by decide +kernel
theorem dX5_become_33 : decode cX5_become 33 = .ok (.iconst 0, 1) := by decide +kernel
theorem dX5_become_34 : decode cX5_become 34 = .ok (.bipush 96, 2) := by decide +kernel
theorem dX5_become_36 : decode cX5_become 36 = .ok (.invokestatic 25, 3) := by decide +kernel
theorem dX5_become_39 : decode cX5_become 39 = .ok (.return_, 1) := by decide +kernel
def f_X5_become (fu : Nat)  (i0 : Nat) (i1 : Nat) (m : Mem) : Option Mem := seqM (upd m (tf i0 0) (m (tf i1 0))) (fun m_1 : Mem => seqM (upd m_1 (tf i0 1) (m_1 (tf i1 1))) (fun m_3 : Mem => seqM (upd m_3 (tf i0 2) (m_3 (tf i1 2))) (fun m_5 : Mem => chk (okCp 0 0 96 96 96) (seqM (cpM m_5 (1100 + 96 * i1) (1100 + 96 * i0) 0 0 96) (fun m_8 : Mem => some m_8)))))
set_option maxHeartbeats 4000000 in
set_option maxRecDepth 100000 in
theorem w_X5_become {X : TX} {p : Program} {l : Launch} {e : Env} {s : State} {mi : MethodId} {args : Array Value} {below : List Frame} {meth : Method} {c : Code} {Q : State → Prop} {mE : Mem} (C : Cx X p s mi args c RX5 cX5_become 2) (hq : RetV X p l e (rmD 2) s mi args below meth c cX5_become Q mE) {fu : Nat} {i0 : Nat} {i1 : Nat} {m : Mem} {H : Heap} {locs : List Loc} {ls : Array Slot} (h : f_X5_become fu i0 i1 m = some mE) (g_i0 : (3, i0) ∈ ids) (g_i1 : (3, i1) ∈ ids) (hW : Wd X s m H locs) (hl : lv_has ls 2 [(0, .ref (ad X 3 i0)), (1, .ref (ad X 3 i1))]) : W p l e (rmD 2) s mi args below meth c H locs 0 0 Q (F0 mi 0 ls []) := by
  unfold f_X5_become at h
  refine lv_aload_n C.1 C.2.1 dX5_become_0 rfl (lv_at hl 0 rfl) ?_
  refine lv_aload_n C.1 C.2.1 dX5_become_1 rfl (lv_at hl 1 rfl) ?_
  refine zg_X5_key C hW g_i1 w_100 dX5_become_2 ?_
  obtain ⟨m_1, e_2, h⟩ := seqM_E h
  refine zp_X5_key C hW g_i0 w_100 e_2 dX5_become_5 (fun H locs hW => ?_)
  refine lv_aload_n C.1 C.2.1 dX5_become_8 rfl (lv_at hl 0 rfl) ?_
  refine lv_aload_n C.1 C.2.1 dX5_become_9 rfl (lv_at hl 1 rfl) ?_
  refine zg_X5_atoms C hW g_i1 w_103 dX5_become_10 ?_
  obtain ⟨m_3, e_4, h⟩ := seqM_E h
  refine zp_X5_atoms C hW g_i0 w_103 e_4 dX5_become_13 (fun H locs hW => ?_)
  refine lv_aload_n C.1 C.2.1 dX5_become_16 rfl (lv_at hl 0 rfl) ?_
  refine lv_aload_n C.1 C.2.1 dX5_become_17 rfl (lv_at hl 1 rfl) ?_
  refine zg_X5_size C hW g_i1 w_106 dX5_become_18 ?_
  obtain ⟨m_5, e_6, h⟩ := seqM_E h
  refine zp_X5_size C hW g_i0 w_106 e_6 dX5_become_21 (fun H locs hW => ?_)
  refine lv_aload_n C.1 C.2.1 dX5_become_24 rfl (lv_at hl 1 rfl) ?_
  refine zg_X5_code C hW g_i1 w_108 dX5_become_25 ?_
  refine lv_iconst (v := 0) C.1 C.2.1 dX5_become_28 rfl ?_
  refine lv_aload_n C.1 C.2.1 dX5_become_29 rfl (lv_at hl 0 rfl) ?_
  refine zg_X5_code C hW g_i0 w_108 dX5_become_30 ?_
  refine lv_iconst (v := 0) C.1 C.2.1 dX5_become_33 rfl ?_
  refine lv_bipush (v := 96) C.1 C.2.1 dX5_become_34 rfl ?_
  obtain ⟨hb_7, h⟩ := chk_E h
  obtain ⟨m_8, e_9, h⟩ := seqM_E h
  refine zcp_4 C hW (im_3_4 g_i1) (im_3_4 g_i0) w_891 hb_7 e_9 hl.1 (Nat.le_of_ble_eq_true rfl) (Nat.le_of_ble_eq_true rfl) dX5_become_36 (fun H locs hW => ?_)
  exact ret_v h hq hW dX5_become_39
theorem c_X5_become {X : TX} {l : Launch} {fu : Nat} {i0 : Nat} {i1 : Nat} {m mE : Mem} (h : f_X5_become fu i0 i1 m = some mE) (g_i0 : (3, i0) ∈ ids) (g_i1 : (3, i1) ∈ ids) : MetV X l yX5_become cX5_become 2 2 [.ref (ad X 3 i0), .ref (ad X 3 i1)] m mE :=
  met_V (by decide) (Nat.le_of_ble_eq_true rfl) (fun p e s mi args below meth c ls Q C hq hW hl => w_X5_become C hq h g_i0 g_i1 hW (lv_sub hl [0, 1] rfl))
theorem k_X5_become : CalV yX5_become cX5_become 2 none RX5 1 := ⟨w_888, w_889, w_63, w_890, by decide +kernel⟩
theorem dX5_put_0 : decode cX5_put 0 = .ok (.aload_n 0, 1) := by decide +kernel
theorem dX5_put_1 : decode cX5_put 1 = .ok (.getfield 22, 3) := by decide +kernel
theorem dX5_put_4 : decode cX5_put 4 = .ok (.bipush 96, 2) := by decide +kernel
theorem dX5_put_6 : decode cX5_put 6 = .ok (.if_icmp .ge 23, 3) := by decide +kernel
theorem dX5_put_9 : decode cX5_put 9 = .ok (.aload_n 0, 1) := by decide +kernel
theorem dX5_put_10 : decode cX5_put 10 = .ok (.getfield 9, 3) := by decide +kernel
theorem dX5_put_13 : decode cX5_put 13 = .ok (.aload_n 0, 1) := by decide +kernel
theorem dX5_put_14 : decode cX5_put 14 = .ok (.getfield 22, 3) := by decide +kernel
theorem dX5_put_17 : decode cX5_put 17 = .ok (.iload_n 1, 1) := by decide +kernel
theorem dX5_put_18 : decode cX5_put 18 = .ok (.iastore, 1) := by decide +kernel
theorem dX5_put_19 : decode cX5_put 19 = .ok (.aload_n 0, 1) := by decide +kernel
theorem dX5_put_20 : decode cX5_put 20 = .ok (.dup, 1) := by decide +kernel
theorem dX5_put_21 : decode cX5_put 21 = .ok (.getfield 22, 3) := by decide +kernel
theorem dX5_put_24 : decode cX5_put 24 = .ok (.iconst 1, 1) := by decide +kernel
theorem dX5_put_25 : decode cX5_put 25 = .ok (.iadd, 1) := by decide +kernel
theorem dX5_put_26 : decode cX5_put 26 = .ok (.putfield 22, 3) := by decide +kernel
theorem dX5_put_29 : decode cX5_put 29 = .ok (.return_, 1) := by decide +kernel
def f_X5_put (fu : Nat)  (i0 : Nat) (x1 : Int32) (m : Mem) : Option Mem := if 96 ≤ (m (tf i0 2)) then (some m) else (chk (inb (m (tf i0 2)) 96) (seqM (upd m ((1100 + 96 * i0) + (m (tf i0 2)).toNatClampNeg) x1) (fun m_2 : Mem => seqM (upd m_2 (tf i0 2) ((m_2 (tf i0 2)) + 1)) (fun m_4 : Mem => some m_4))))
set_option maxHeartbeats 4000000 in
set_option maxRecDepth 100000 in
theorem w_X5_put {X : TX} {p : Program} {l : Launch} {e : Env} {s : State} {mi : MethodId} {args : Array Value} {below : List Frame} {meth : Method} {c : Code} {Q : State → Prop} {mE : Mem} (C : Cx X p s mi args c RX5 cX5_put 2) (hq : RetV X p l e (rmD 0) s mi args below meth c cX5_put Q mE) {fu : Nat} {i0 : Nat} {x1 : Int32} {m : Mem} {H : Heap} {locs : List Loc} {ls : Array Slot} (h : f_X5_put fu i0 x1 m = some mE) (g_i0 : (3, i0) ∈ ids) (hW : Wd X s m H locs) (hl : lv_has ls 2 [(0, .ref (ad X 3 i0)), (1, .int x1)]) : W p l e (rmD 0) s mi args below meth c H locs 0 0 Q (F0 mi 0 ls []) := by
  unfold f_X5_put at h
  refine lv_aload_n C.1 C.2.1 dX5_put_0 rfl (lv_at hl 0 rfl) ?_
  refine zg_X5_size C hW g_i0 w_106 dX5_put_1 ?_
  refine lv_bipush (v := 96) C.1 C.2.1 dX5_put_4 rfl ?_
  refine lv_icmp_ge (tgt := 29) C.1 C.2.1 dX5_put_6 (by decide) (fun hc_6 => ?_) (fun hc_6 => ?_)
  · have h := ite_t hc_6 h
    exact ret_v h hq hW dX5_put_29
  · have h := ite_f hc_6 h
    refine lv_aload_n C.1 C.2.1 dX5_put_9 rfl (lv_at hl 0 rfl) ?_
    refine zg_X5_code C hW g_i0 w_108 dX5_put_10 ?_
    refine lv_aload_n C.1 C.2.1 dX5_put_13 rfl (lv_at hl 0 rfl) ?_
    refine zg_X5_size C hW g_i0 w_106 dX5_put_14 ?_
    refine lv_iload_n C.1 C.2.1 dX5_put_17 rfl (lv_at hl 1 rfl) ?_
    obtain ⟨hb_1, h⟩ := chk_E h
    obtain ⟨m_2, e_3, h⟩ := seqM_E h
    refine zas_4 C hW (im_3_4 g_i0) (inb_E hb_1) e_3 dX5_put_18 (fun H locs hW => ?_)
    refine lv_aload_n C.1 C.2.1 dX5_put_19 rfl (lv_at hl 0 rfl) ?_
    refine lv_dup C.1 C.2.1 dX5_put_20 rfl ?_
    refine zg_X5_size C hW g_i0 w_106 dX5_put_21 ?_
    refine lv_iconst (v := 1) C.1 C.2.1 dX5_put_24 rfl ?_
    refine lv_iadd C.1 C.2.1 dX5_put_25 ?_
    obtain ⟨m_4, e_5, h⟩ := seqM_E h
    refine zp_X5_size C hW g_i0 w_106 e_5 dX5_put_26 (fun H locs hW => ?_)
    exact ret_v h hq hW dX5_put_29
theorem c_X5_put {X : TX} {l : Launch} {fu : Nat} {i0 : Nat} {x1 : Int32} {m mE : Mem} (h : f_X5_put fu i0 x1 m = some mE) (g_i0 : (3, i0) ∈ ids) : MetV X l yX5_put cX5_put 2 0 [.ref (ad X 3 i0), .int x1] m mE :=
  met_V (by decide) (Nat.le_of_ble_eq_true rfl) (fun p e s mi args below meth c ls Q C hq hW hl => w_X5_put C hq h g_i0 hW (lv_sub hl [0, 1] rfl))
theorem k_X5_put : CalV yX5_put cX5_put 2 none RX5 1 := ⟨w_799, w_800, w_63, w_801, by decide +kernel⟩
theorem dX6_join_0 : decode cX6_join 0 = .ok (.iload_n 0, 1) := by decide +kernel
theorem dX6_join_1 : decode cX6_join 1 = .ok (.lookupswitch 148 #[(38, 89), (42, 144), (43, 136), (45, 140), (60, 103), (61, 114), (62, 125), (124, 75)], 75) := by decide +kernel
theorem dX6_join_76 : decode cX6_join 76 = .ok (.iload_n 1, 1) := by decide +kernel
theorem dX6_join_77 : decode cX6_join 77 = .ok (.ifCond .ne 7, 3) := by decide +kernel
theorem dX6_join_80 : decode cX6_join 80 = .ok (.iload_n 2, 1) := by decide +kernel
theorem dX6_join_81 : decode cX6_join 81 = .ok (.ifCond .eq 7, 3) := by decide +kernel
theorem dX6_join_84 : decode cX6_join 84 = .ok (.iconst 1, 1) := by decide +kernel
theorem dX6_join_85 : decode cX6_join 85 = .ok (.goto 4, 3) := by decide +kernel
theorem dX6_join_88 : decode cX6_join 88 = .ok (.iconst 0, 1) := by decide +kernel
theorem dX6_join_89 : decode cX6_join 89 = .ok (.ireturn, 1) := by decide +kernel
theorem dX6_join_90 : decode cX6_join 90 = .ok (.iload_n 1, 1) := by decide +kernel
theorem dX6_join_91 : decode cX6_join 91 = .ok (.ifCond .eq 11, 3) := by decide +kernel
theorem dX6_join_94 : decode cX6_join 94 = .ok (.iload_n 2, 1) := by decide +kernel
theorem dX6_join_95 : decode cX6_join 95 = .ok (.ifCond .eq 7, 3) := by decide +kernel
theorem dX6_join_98 : decode cX6_join 98 = .ok (.iconst 1, 1) := by decide +kernel
theorem dX6_join_99 : decode cX6_join 99 = .ok (.goto 4, 3) := by decide +kernel
theorem dX6_join_102 : decode cX6_join 102 = .ok (.iconst 0, 1) := by decide +kernel
theorem dX6_join_103 : decode cX6_join 103 = .ok (.ireturn, 1) := by decide +kernel
theorem dX6_join_104 : decode cX6_join 104 = .ok (.iload_n 1, 1) := by decide +kernel
theorem dX6_join_105 : decode cX6_join 105 = .ok (.iload_n 2, 1) := by decide +kernel
theorem dX6_join_106 : decode cX6_join 106 = .ok (.if_icmp .ge 7, 3) := by decide +kernel
theorem dX6_join_109 : decode cX6_join 109 = .ok (.iconst 1, 1) := by decide +kernel
theorem dX6_join_110 : decode cX6_join 110 = .ok (.goto 4, 3) := by decide +kernel
theorem dX6_join_113 : decode cX6_join 113 = .ok (.iconst 0, 1) := by decide +kernel
theorem dX6_join_114 : decode cX6_join 114 = .ok (.ireturn, 1) := by decide +kernel
theorem dX6_join_115 : decode cX6_join 115 = .ok (.iload_n 1, 1) := by decide +kernel
theorem dX6_join_116 : decode cX6_join 116 = .ok (.iload_n 2, 1) := by decide +kernel
theorem dX6_join_117 : decode cX6_join 117 = .ok (.if_icmp .ne 7, 3) := by decide +kernel
theorem dX6_join_120 : decode cX6_join 120 = .ok (.iconst 1, 1) := by decide +kernel
theorem dX6_join_121 : decode cX6_join 121 = .ok (.goto 4, 3) := by decide +kernel
theorem dX6_join_124 : decode cX6_join 124 = .ok (.iconst 0, 1) := by decide +kernel
theorem dX6_join_125 : decode cX6_join 125 = .ok (.ireturn, 1) := by decide +kernel
theorem dX6_join_126 : decode cX6_join 126 = .ok (.iload_n 1, 1) := by decide +kernel
theorem dX6_join_127 : decode cX6_join 127 = .ok (.iload_n 2, 1) := by decide +kernel
theorem dX6_join_128 : decode cX6_join 128 = .ok (.if_icmp .le 7, 3) := by decide +kernel
theorem dX6_join_131 : decode cX6_join 131 = .ok (.iconst 1, 1) := by decide +kernel
theorem dX6_join_132 : decode cX6_join 132 = .ok (.goto 4, 3) := by decide +kernel
theorem dX6_join_135 : decode cX6_join 135 = .ok (.iconst 0, 1) := by decide +kernel
theorem dX6_join_136 : decode cX6_join 136 = .ok (.ireturn, 1) := by decide +kernel
theorem dX6_join_137 : decode cX6_join 137 = .ok (.iload_n 1, 1) := by decide +kernel
theorem dX6_join_138 : decode cX6_join 138 = .ok (.iload_n 2, 1) := by decide +kernel
theorem dX6_join_139 : decode cX6_join 139 = .ok (.iadd, 1) := by decide +kernel
theorem dX6_join_140 : decode cX6_join 140 = .ok (.ireturn, 1) := by decide +kernel
theorem dX6_join_141 : decode cX6_join 141 = .ok (.iload_n 1, 1) := by decide +kernel
theorem dX6_join_142 : decode cX6_join 142 = .ok (.iload_n 2, 1) := by decide +kernel
theorem dX6_join_143 : decode cX6_join 143 = .ok (.isub, 1) := by decide +kernel
theorem dX6_join_144 : decode cX6_join 144 = .ok (.ireturn, 1) := by decide +kernel
theorem dX6_join_145 : decode cX6_join 145 = .ok (.iload_n 1, 1) := by decide +kernel
theorem dX6_join_146 : decode cX6_join 146 = .ok (.iload_n 2, 1) := by decide +kernel
theorem dX6_join_147 : decode cX6_join 147 = .ok (.imul, 1) := by decide +kernel
theorem dX6_join_148 : decode cX6_join 148 = .ok (.ireturn, 1) := by decide +kernel
theorem dX6_join_149 : decode cX6_join 149 = .ok (.iload_n 2, 1) := by decide +kernel
theorem dX6_join_150 : decode cX6_join 150 = .ok (.ifCond .ne 7, 3) := by decide +kernel
theorem dX6_join_153 : decode cX6_join 153 = .ok (.iconst 0, 1) := by decide +kernel
theorem dX6_join_154 : decode cX6_join 154 = .ok (.goto 6, 3) := by decide +kernel
theorem dX6_join_157 : decode cX6_join 157 = .ok (.iload_n 1, 1) := by decide +kernel
theorem dX6_join_158 : decode cX6_join 158 = .ok (.iload_n 2, 1) := by decide +kernel
theorem dX6_join_159 : decode cX6_join 159 = .ok (.idiv, 1) := by decide +kernel
theorem dX6_join_160 : decode cX6_join 160 = .ok (.ireturn, 1) := by decide +kernel
def f_X6_join_84 (fu : Nat)   (m : Mem) : Option (Int32 × Mem) := some (1, m)
set_option maxHeartbeats 4000000 in
set_option maxRecDepth 100000 in
theorem w_X6_join_84 {X : TX} {p : Program} {l : Launch} {e : Env} {s : State} {mi : MethodId} {args : Array Value} {below : List Frame} {meth : Method} {c : Code} {Q : State → Prop} {r : Int32} {mE : Mem} (C : Cx X p s mi args c RX6 cX6_join 3) (hq : RetI X p l e (rmD 0) s mi args below meth c cX6_join .int Q r mE) {fu : Nat}  {m : Mem} {H : Heap} {locs : List Loc} {ls : Array Slot} (h : f_X6_join_84 fu  m = some (r, mE))  (hW : Wd X s m H locs) (hl : lv_has ls 3 []) : W p l e (rmD 0) s mi args below meth c H locs 0 0 Q (F0 mi 84 ls []) := by
  unfold f_X6_join_84 at h
  refine lv_iconst (v := 1) C.1 C.2.1 dX6_join_84 rfl ?_
  refine lv_goto (tgt := 89) C.1 C.2.1 dX6_join_85 (by decide) ?_
  exact ret_i h hq rfl hW dX6_join_89
def f_X6_join (fu : Nat)  (x0 : Int32) (x1 : Int32) (x2 : Int32) (m : Mem) : Option (Int32 × Mem) := if x0 = 38 then (if x1 = 0 then (some (0, m)) else (if x2 = 0 then (some (0, m)) else (some (1, m)))) else (if x0 = 42 then (some ((x1 * x2), m)) else (if x0 = 43 then (some ((x1 + x2), m)) else (if x0 = 45 then (some ((x1 - x2), m)) else (if x0 = 60 then (if x2 ≤ x1 then (some (0, m)) else (some (1, m))) else (if x0 = 61 then (if x1 = x2 then (some (1, m)) else (some (0, m))) else (if x0 = 62 then (if x1 ≤ x2 then (some (0, m)) else (some (1, m))) else (if x0 = 124 then (if x1 = 0 then (if x2 = 0 then (some (0, m)) else (f_X6_join_84 fu m)) else (f_X6_join_84 fu m)) else (if x2 = 0 then (some (0, m)) else (chk (nz x2) (some ((x1 / x2), m)))))))))))
set_option maxHeartbeats 4000000 in
set_option maxRecDepth 100000 in
theorem w_X6_join {X : TX} {p : Program} {l : Launch} {e : Env} {s : State} {mi : MethodId} {args : Array Value} {below : List Frame} {meth : Method} {c : Code} {Q : State → Prop} {r : Int32} {mE : Mem} (C : Cx X p s mi args c RX6 cX6_join 3) (hq : RetI X p l e (rmD 0) s mi args below meth c cX6_join .int Q r mE) {fu : Nat} {x0 : Int32} {x1 : Int32} {x2 : Int32} {m : Mem} {H : Heap} {locs : List Loc} {ls : Array Slot} (h : f_X6_join fu x0 x1 x2 m = some (r, mE))  (hW : Wd X s m H locs) (hl : lv_has ls 3 [(0, .int x0), (1, .int x1), (2, .int x2)]) : W p l e (rmD 0) s mi args below meth c H locs 0 0 Q (F0 mi 0 ls []) := by
  unfold f_X6_join at h
  refine lv_iload_n C.1 C.2.1 dX6_join_0 rfl (lv_at hl 0 rfl) ?_
  by_cases hc_3 : x0 = 38
  · have h := ite_t hc_3 h
    refine lv_lookup (tgt := 90) (off := 89) C.1 C.2.1 dX6_join_1 (by decide) (by first | (rw [hc_3]; done) | (rw [hc_3]; decide) | (rw [hc_3]; rfl)) (by decide) ?_
    refine lv_iload_n C.1 C.2.1 dX6_join_90 rfl (lv_at hl 1 rfl) ?_
    refine lv_if_eq (tgt := 102) C.1 C.2.1 dX6_join_91 (by decide) (fun hc_2 => ?_) (fun hc_2 => ?_)
    · have h := ite_t hc_2 h
      refine lv_iconst (v := 0) C.1 C.2.1 dX6_join_102 rfl ?_
      exact ret_i h hq rfl hW dX6_join_103
    · have h := ite_f hc_2 h
      refine lv_iload_n C.1 C.2.1 dX6_join_94 rfl (lv_at hl 2 rfl) ?_
      refine lv_if_eq (tgt := 102) C.1 C.2.1 dX6_join_95 (by decide) (fun hc_1 => ?_) (fun hc_1 => ?_)
      · have h := ite_t hc_1 h
        refine lv_iconst (v := 0) C.1 C.2.1 dX6_join_102 rfl ?_
        exact ret_i h hq rfl hW dX6_join_103
      · have h := ite_f hc_1 h
        refine lv_iconst (v := 1) C.1 C.2.1 dX6_join_98 rfl ?_
        refine lv_goto (tgt := 103) C.1 C.2.1 dX6_join_99 (by decide) ?_
        exact ret_i h hq rfl hW dX6_join_103
  · have h := ite_f hc_3 h
    by_cases hc_4 : x0 = 42
    · have h := ite_t hc_4 h
      refine lv_lookup (tgt := 145) (off := 144) C.1 C.2.1 dX6_join_1 (by decide) (by first | (rw [hc_4]; done) | (rw [hc_4]; decide) | (rw [hc_4]; rfl)) (by decide) ?_
      refine lv_iload_n C.1 C.2.1 dX6_join_145 rfl (lv_at hl 1 rfl) ?_
      refine lv_iload_n C.1 C.2.1 dX6_join_146 rfl (lv_at hl 2 rfl) ?_
      refine lv_imul C.1 C.2.1 dX6_join_147 ?_
      exact ret_i h hq rfl hW dX6_join_148
    · have h := ite_f hc_4 h
      by_cases hc_5 : x0 = 43
      · have h := ite_t hc_5 h
        refine lv_lookup (tgt := 137) (off := 136) C.1 C.2.1 dX6_join_1 (by decide) (by first | (rw [hc_5]; done) | (rw [hc_5]; decide) | (rw [hc_5]; rfl)) (by decide) ?_
        refine lv_iload_n C.1 C.2.1 dX6_join_137 rfl (lv_at hl 1 rfl) ?_
        refine lv_iload_n C.1 C.2.1 dX6_join_138 rfl (lv_at hl 2 rfl) ?_
        refine lv_iadd C.1 C.2.1 dX6_join_139 ?_
        exact ret_i h hq rfl hW dX6_join_140
      · have h := ite_f hc_5 h
        by_cases hc_6 : x0 = 45
        · have h := ite_t hc_6 h
          refine lv_lookup (tgt := 141) (off := 140) C.1 C.2.1 dX6_join_1 (by decide) (by first | (rw [hc_6]; done) | (rw [hc_6]; decide) | (rw [hc_6]; rfl)) (by decide) ?_
          refine lv_iload_n C.1 C.2.1 dX6_join_141 rfl (lv_at hl 1 rfl) ?_
          refine lv_iload_n C.1 C.2.1 dX6_join_142 rfl (lv_at hl 2 rfl) ?_
          refine lv_isub C.1 C.2.1 dX6_join_143 ?_
          exact ret_i h hq rfl hW dX6_join_144
        · have h := ite_f hc_6 h
          by_cases hc_8 : x0 = 60
          · have h := ite_t hc_8 h
            refine lv_lookup (tgt := 104) (off := 103) C.1 C.2.1 dX6_join_1 (by decide) (by first | (rw [hc_8]; done) | (rw [hc_8]; decide) | (rw [hc_8]; rfl)) (by decide) ?_
            refine lv_iload_n C.1 C.2.1 dX6_join_104 rfl (lv_at hl 1 rfl) ?_
            refine lv_iload_n C.1 C.2.1 dX6_join_105 rfl (lv_at hl 2 rfl) ?_
            refine lv_icmp_ge (tgt := 113) C.1 C.2.1 dX6_join_106 (by decide) (fun hc_7 => ?_) (fun hc_7 => ?_)
            · have h := ite_t hc_7 h
              refine lv_iconst (v := 0) C.1 C.2.1 dX6_join_113 rfl ?_
              exact ret_i h hq rfl hW dX6_join_114
            · have h := ite_f hc_7 h
              refine lv_iconst (v := 1) C.1 C.2.1 dX6_join_109 rfl ?_
              refine lv_goto (tgt := 114) C.1 C.2.1 dX6_join_110 (by decide) ?_
              exact ret_i h hq rfl hW dX6_join_114
          · have h := ite_f hc_8 h
            by_cases hc_10 : x0 = 61
            · have h := ite_t hc_10 h
              refine lv_lookup (tgt := 115) (off := 114) C.1 C.2.1 dX6_join_1 (by decide) (by first | (rw [hc_10]; done) | (rw [hc_10]; decide) | (rw [hc_10]; rfl)) (by decide) ?_
              refine lv_iload_n C.1 C.2.1 dX6_join_115 rfl (lv_at hl 1 rfl) ?_
              refine lv_iload_n C.1 C.2.1 dX6_join_116 rfl (lv_at hl 2 rfl) ?_
              refine lv_icmp_ne (tgt := 124) C.1 C.2.1 dX6_join_117 (by decide) (fun hc_9 => ?_) (fun hc_9 => ?_)
              · have h := ite_f hc_9 h
                refine lv_iconst (v := 0) C.1 C.2.1 dX6_join_124 rfl ?_
                exact ret_i h hq rfl hW dX6_join_125
              · have h := ite_t hc_9 h
                refine lv_iconst (v := 1) C.1 C.2.1 dX6_join_120 rfl ?_
                refine lv_goto (tgt := 125) C.1 C.2.1 dX6_join_121 (by decide) ?_
                exact ret_i h hq rfl hW dX6_join_125
            · have h := ite_f hc_10 h
              by_cases hc_12 : x0 = 62
              · have h := ite_t hc_12 h
                refine lv_lookup (tgt := 126) (off := 125) C.1 C.2.1 dX6_join_1 (by decide) (by first | (rw [hc_12]; done) | (rw [hc_12]; decide) | (rw [hc_12]; rfl)) (by decide) ?_
                refine lv_iload_n C.1 C.2.1 dX6_join_126 rfl (lv_at hl 1 rfl) ?_
                refine lv_iload_n C.1 C.2.1 dX6_join_127 rfl (lv_at hl 2 rfl) ?_
                refine lv_icmp_le (tgt := 135) C.1 C.2.1 dX6_join_128 (by decide) (fun hc_11 => ?_) (fun hc_11 => ?_)
                · have h := ite_t hc_11 h
                  refine lv_iconst (v := 0) C.1 C.2.1 dX6_join_135 rfl ?_
                  exact ret_i h hq rfl hW dX6_join_136
                · have h := ite_f hc_11 h
                  refine lv_iconst (v := 1) C.1 C.2.1 dX6_join_131 rfl ?_
                  refine lv_goto (tgt := 136) C.1 C.2.1 dX6_join_132 (by decide) ?_
                  exact ret_i h hq rfl hW dX6_join_136
              · have h := ite_f hc_12 h
                by_cases hc_15 : x0 = 124
                · have h := ite_t hc_15 h
                  refine lv_lookup (tgt := 76) (off := 75) C.1 C.2.1 dX6_join_1 (by decide) (by first | (rw [hc_15]; done) | (rw [hc_15]; decide) | (rw [hc_15]; rfl)) (by decide) ?_
                  refine lv_iload_n C.1 C.2.1 dX6_join_76 rfl (lv_at hl 1 rfl) ?_
                  refine lv_if_ne (tgt := 84) C.1 C.2.1 dX6_join_77 (by decide) (fun hc_14 => ?_) (fun hc_14 => ?_)
                  · have h := ite_f hc_14 h
                    exact w_X6_join_84 C hq  h  hW (lv_sub hl [] rfl)
                  · have h := ite_t hc_14 h
                    refine lv_iload_n C.1 C.2.1 dX6_join_80 rfl (lv_at hl 2 rfl) ?_
                    refine lv_if_eq (tgt := 88) C.1 C.2.1 dX6_join_81 (by decide) (fun hc_13 => ?_) (fun hc_13 => ?_)
                    · have h := ite_t hc_13 h
                      refine lv_iconst (v := 0) C.1 C.2.1 dX6_join_88 rfl ?_
                      exact ret_i h hq rfl hW dX6_join_89
                    · have h := ite_f hc_13 h
                      exact w_X6_join_84 C hq  h  hW (lv_sub hl [] rfl)
                · have h := ite_f hc_15 h
                  have nhc_3 := ne_k (38) rfl hc_3
                  have nhc_4 := ne_k (42) rfl hc_4
                  have nhc_5 := ne_k (43) rfl hc_5
                  have nhc_6 := ne_k (45) rfl hc_6
                  have nhc_8 := ne_k (60) rfl hc_8
                  have nhc_10 := ne_k (61) rfl hc_10
                  have nhc_12 := ne_k (62) rfl hc_12
                  have nhc_15 := ne_k (124) rfl hc_15
                  refine lv_lookup (tgt := 149) (off := 148) C.1 C.2.1 dX6_join_1 (by decide) (by show Op.lookupswitch.offset [(38, 89), (42, 144), (43, 136), (45, 140), (60, 103), (61, 114), (62, 125), (124, 75)] 148 _ = _; rw [Op.lookupswitch.offset_cons, if_neg nhc_3.symm, Op.lookupswitch.offset_cons, if_neg nhc_4.symm, Op.lookupswitch.offset_cons, if_neg nhc_5.symm, Op.lookupswitch.offset_cons, if_neg nhc_6.symm, Op.lookupswitch.offset_cons, if_neg nhc_8.symm, Op.lookupswitch.offset_cons, if_neg nhc_10.symm, Op.lookupswitch.offset_cons, if_neg nhc_12.symm, Op.lookupswitch.offset_cons, if_neg nhc_15.symm, Op.lookupswitch.offset_nil]) (by decide) ?_
                  refine lv_iload_n C.1 C.2.1 dX6_join_149 rfl (lv_at hl 2 rfl) ?_
                  refine lv_if_ne (tgt := 157) C.1 C.2.1 dX6_join_150 (by decide) (fun hc_17 => ?_) (fun hc_17 => ?_)
                  · have h := ite_f hc_17 h
                    refine lv_iload_n C.1 C.2.1 dX6_join_157 rfl (lv_at hl 1 rfl) ?_
                    refine lv_iload_n C.1 C.2.1 dX6_join_158 rfl (lv_at hl 2 rfl) ?_
                    obtain ⟨hb_16, h⟩ := chk_E h
                    refine lv_idiv C.1 C.2.1 dX6_join_159 (nz_E hb_16) ?_
                    exact ret_i h hq rfl hW dX6_join_160
                  · have h := ite_t hc_17 h
                    refine lv_iconst (v := 0) C.1 C.2.1 dX6_join_153 rfl ?_
                    refine lv_goto (tgt := 160) C.1 C.2.1 dX6_join_154 (by decide) ?_
                    exact ret_i h hq rfl hW dX6_join_160
theorem c_X6_join {X : TX} {l : Launch} {fu : Nat} {x0 : Int32} {x1 : Int32} {x2 : Int32} {m mE : Mem} {r : Int32} (h : f_X6_join fu x0 x1 x2 m = some (r, mE))  : MetI X l yX6_join cX6_join 3 .int 0 [.int x0, .int x1, .int x2] m r mE :=
  met_I (by decide) (Nat.le_of_ble_eq_true rfl) (fun p e s mi args below meth c ls Q C hq hW hl => w_X6_join C hq h  hW (lv_sub hl [0, 1, 2] rfl))
theorem k_X6_join : CalS yX6_join cX6_join 3 (some .int) 3 := ⟨w_550, w_62, w_551, by decide +kernel⟩
theorem dX6_give_0 : decode cX6_give 0 = .ok (.iload_n 1, 1) := by decide +kernel
theorem dX6_give_1 : decode cX6_give 1 = .ok (.ifCond .lt 9, 3) := by decide +kernel
theorem dX6_give_4 : decode cX6_give 4 = .ok (.iload_n 1, 1) := by decide +kernel
theorem dX6_give_5 : decode cX6_give 5 = .ok (.bipush 14, 2) := by decide +kernel
theorem dX6_give_7 : decode cX6_give 7 = .ok (.if_icmp .lt 5, 3) := by decide +kernel
theorem dX6_give_10 : decode cX6_give 10 = .ok (.iconst 0, 1) := by decide +kernel
theorem dX6_give_11 : decode cX6_give 11 = .ok (.ireturn, 1) := by decide +kernel
theorem dX6_give_12 : decode cX6_give 12 = .ok (.aload_n 0, 1) := by decide +kernel
theorem dX6_give_13 : decode cX6_give 13 = .ok (.getfield 11, 3) := by decide +kernel
theorem dX6_give_16 : decode cX6_give 16 = .ok (.iload_n 1, 1) := by decide +kernel
theorem dX6_give_17 : decode cX6_give 17 = .ok (.aaload, 1) := by decide +kernel
theorem dX6_give_18 : decode cX6_give 18 = .ok (.getfield 22, 3) := by decide +kernel
theorem dX6_give_21 : decode cX6_give 21 = .ok (.astore 5, 2) := by decide +kernel
theorem dX6_give_23 : decode cX6_give 23 = .ok (.aload_n 0, 1) := by decide +kernel
theorem dX6_give_24 : decode cX6_give 24 = .ok (.getfield 11, 3) := by decide +kernel
theorem dX6_give_27 : decode cX6_give 27 = .ok (.iload_n 1, 1) := by decide +kernel
theorem dX6_give_28 : decode cX6_give 28 = .ok (.aaload, 1) := by decide +kernel
theorem dX6_give_29 : decode cX6_give 29 = .ok (.getfield 25, 3) := by decide +kernel
theorem dX6_give_32 : decode cX6_give 32 = .ok (.istore 6, 2) := by decide +kernel
theorem dX6_give_34 : decode cX6_give 34 = .ok (.iconst 0, 1) := by decide +kernel
theorem dX6_give_35 : decode cX6_give 35 = .ok (.istore 7, 2) := by decide +kernel
theorem dX6_give_37 : decode cX6_give 37 = .ok (.iconst 0, 1) := by decide +kernel
theorem dX6_give_38 : decode cX6_give 38 = .ok (.istore 8, 2) := by decide +kernel
theorem dX6_give_40 : decode cX6_give 40 = .ok (.iload 8, 2) := by decide +kernel
theorem dX6_give_42 : decode cX6_give 42 = .ok (.iload 6, 2) := by decide +kernel
theorem dX6_give_44 : decode cX6_give 44 = .ok (.if_icmp .ge 162, 3) := by decide +kernel
theorem dX6_give_47 : decode cX6_give 47 = .ok (.aload 5, 2) := by decide +kernel
theorem dX6_give_49 : decode cX6_give 49 = .ok (.iload 8, 2) := by decide +kernel
theorem dX6_give_51 : decode cX6_give 51 = .ok (.iaload, 1) := by decide +kernel
theorem dX6_give_52 : decode cX6_give 52 = .ok (.istore 9, 2) := by decide +kernel
theorem dX6_give_54 : decode cX6_give 54 = .ok (.iload 9, 2) := by decide +kernel
theorem dX6_give_56 : decode cX6_give 56 = .ok (.bipush (-3), 2) := by decide +kernel
theorem dX6_give_58 : decode cX6_give 58 = .ok (.if_icmp .lt 60, 3) := by decide +kernel
theorem dX6_give_61 : decode cX6_give 61 = .ok (.iload 9, 2) := by decide +kernel
theorem dX6_give_63 : decode cX6_give 63 = .ok (.ifCond .lt 8, 3) := by decide +kernel
theorem dX6_give_66 : decode cX6_give 66 = .ok (.iload 9, 2) := by decide +kernel
theorem dX6_give_68 : decode cX6_give 68 = .ok (.goto 26, 3) := by decide +kernel
theorem dX6_give_71 : decode cX6_give 71 = .ok (.iload 9, 2) := by decide +kernel
theorem dX6_give_73 : decode cX6_give 73 = .ok (.iconst (-1), 1) := by decide +kernel
theorem dX6_give_74 : decode cX6_give 74 = .ok (.if_icmp .ne 7, 3) := by decide +kernel
theorem dX6_give_77 : decode cX6_give 77 = .ok (.iload_n 2, 1) := by decide +kernel
theorem dX6_give_78 : decode cX6_give 78 = .ok (.goto 16, 3) := by decide +kernel
theorem dX6_give_81 : decode cX6_give 81 = .ok (.iload 9, 2) := by decide +kernel
theorem dX6_give_83 : decode cX6_give 83 = .ok (.bipush (-2), 2) := by decide +kernel
theorem dX6_give_85 : decode cX6_give 85 = .ok (.if_icmp .ne 7, 3) := by decide +kernel
theorem dX6_give_88 : decode cX6_give 88 = .ok (.iload_n 3, 1) := by decide +kernel
theorem dX6_give_89 : decode cX6_give 89 = .ok (.goto 5, 3) := by decide +kernel
theorem dX6_give_92 : decode cX6_give 92 = .ok (.iload 4, 2) := by decide +kernel
theorem dX6_give_94 : decode cX6_give 94 = .ok (.istore 10, 2) := by decide +kernel
theorem dX6_give_96 : decode cX6_give 96 = .ok (.iload 7, 2) := by decide +kernel
theorem dX6_give_98 : decode cX6_give 98 = .ok (.bipush 96, 2) := by decide +kernel
theorem dX6_give_100 : decode cX6_give 100 = .ok (.if_icmp .ge 15, 3) := by decide +kernel
theorem dX6_give_103 : decode cX6_give 103 = .ok (.aload_n 0, 1) := by decide +kernel
theorem dX6_give_104 : decode cX6_give 104 = .ok (.getfield 18, 3) := by decide +kernel
theorem dX6_give_107 : decode cX6_give 107 = .ok (.iload 7, 2) := by decide +kernel
theorem dX6_give_109 : decode cX6_give 109 = .ok (.iload 10, 2) := by decide +kernel
theorem dX6_give_111 : decode cX6_give 111 = .ok (.iastore, 1) := by decide +kernel
theorem dX6_give_112 : decode cX6_give 112 = .ok (.iinc 7 1, 3) := by decide +kernel
theorem dX6_give_115 : decode cX6_give 115 = .ok (.goto 85, 3) := by decide +kernel
theorem dX6_give_118 : decode cX6_give 118 = .ok (.iload 9, 2) := by decide +kernel
theorem dX6_give_120 : decode cX6_give 120 = .ok (.bipush (-33), 2) := by decide +kernel
theorem dX6_give_122 : decode cX6_give 122 = .ok (.if_icmp .ne 38, 3) := by decide +kernel
theorem dX6_give_125 : decode cX6_give 125 = .ok (.iload 7, 2) := by decide +kernel
theorem dX6_give_127 : decode cX6_give 127 = .ok (.iconst 1, 1) := by decide +kernel
theorem dX6_give_128 : decode cX6_give 128 = .ok (.if_icmp .lt 72, 3) := by decide +kernel
theorem dX6_give_131 : decode cX6_give 131 = .ok (.aload_n 0, 1) := by decide +kernel
theorem dX6_give_132 : decode cX6_give 132 = .ok (.getfield 18, 3) := by decide +kernel
theorem dX6_give_135 : decode cX6_give 135 = .ok (.iload 7, 2) := by decide +kernel
theorem dX6_give_137 : decode cX6_give 137 = .ok (.iconst 1, 1) := by decide +kernel
theorem dX6_give_138 : decode cX6_give 138 = .ok (.isub, 1) := by decide +kernel
theorem dX6_give_139 : decode cX6_give 139 = .ok (.aload_n 0, 1) := by decide +kernel
theorem dX6_give_140 : decode cX6_give 140 = .ok (.getfield 18, 3) := by decide +kernel
theorem dX6_give_143 : decode cX6_give 143 = .ok (.iload 7, 2) := by decide +kernel
theorem dX6_give_145 : decode cX6_give 145 = .ok (.iconst 1, 1) := by decide +kernel
theorem dX6_give_146 : decode cX6_give 146 = .ok (.isub, 1) := by decide +kernel
theorem dX6_give_147 : decode cX6_give 147 = .ok (.iaload, 1) := by decide +kernel
theorem dX6_give_148 : decode cX6_give 148 = .ok (.ifCond .ne 7, 3) := by decide +kernel
theorem dX6_give_151 : decode cX6_give 151 = .ok (.iconst 1, 1) := by decide +kernel
theorem dX6_give_152 : decode cX6_give 152 = .ok (.goto 4, 3) := by decide +kernel
theorem dX6_give_155 : decode cX6_give 155 = .ok (.iconst 0, 1) := by decide +kernel
theorem dX6_give_156 : decode cX6_give 156 = .ok (.iastore, 1) := by decide +kernel
theorem dX6_give_157 : decode cX6_give 157 = .ok (.goto 43, 3) := by decide +kernel
theorem dX6_give_160 : decode cX6_give 160 = .ok (.iload 7, 2) := by decide +kernel
theorem dX6_give_162 : decode cX6_give 162 = .ok (.iconst 2, 1) := by decide +kernel
theorem dX6_give_163 : decode cX6_give 163 = .ok (.if_icmp .lt 37, 3) := by decide +kernel
theorem dX6_give_166 : decode cX6_give 166 = .ok (.iinc 7 (-1), 3) := by decide +kernel
theorem dX6_give_169 : decode cX6_give 169 = .ok (.aload_n 0, 1) := by decide +kernel
theorem dX6_give_170 : decode cX6_give 170 = .ok (.getfield 18, 3) := by decide +kernel
theorem dX6_give_173 : decode cX6_give 173 = .ok (.iload 7, 2) := by decide +kernel
theorem dX6_give_175 : decode cX6_give 175 = .ok (.iconst 1, 1) := by decide +kernel
theorem dX6_give_176 : decode cX6_give 176 = .ok (.isub, 1) := by decide +kernel
theorem dX6_give_177 : decode cX6_give 177 = .ok (.iload 9, 2) := by decide +kernel
theorem dX6_give_179 : decode cX6_give 179 = .ok (.ineg, 1) := by decide +kernel
theorem dX6_give_180 : decode cX6_give 180 = .ok (.aload_n 0, 1) := by decide +kernel
theorem dX6_give_181 : decode cX6_give 181 = .ok (.getfield 18, 3) := by decide +kernel
theorem dX6_give_184 : decode cX6_give 184 = .ok (.iload 7, 2) := by decide +kernel
theorem dX6_give_186 : decode cX6_give 186 = .ok (.iconst 1, 1) := by decide +kernel
theorem dX6_give_187 : decode cX6_give 187 = .ok (.isub, 1) := by decide +kernel
theorem dX6_give_188 : decode cX6_give 188 = .ok (.iaload, 1) := by decide +kernel
theorem dX6_give_189 : decode cX6_give 189 = .ok (.aload_n 0, 1) := by decide +kernel
theorem dX6_give_190 : decode cX6_give 190 = .ok (.getfield 18, 3) := by decide +kernel
theorem dX6_give_193 : decode cX6_give 193 = .ok (.iload 7, 2) := by decide +kernel
theorem dX6_give_195 : decode cX6_give 195 = .ok (.iaload, 1) := by decide +kernel
theorem dX6_give_196 : decode cX6_give 196 = .ok (.invokestatic 29, 3) := by decide +kernel
theorem dX6_give_199 : decode cX6_give 199 = .ok (.iastore, 1) := by decide +kernel
theorem dX6_give_200 : decode cX6_give 200 = .ok (.iinc 8 1, 3) := by decide +kernel
theorem dX6_give_203 : decode cX6_give 203 = .ok (.goto (-163), 3) := by decide +kernel
theorem dX6_give_206 : decode cX6_give 206 = .ok (.iload 7, 2) := by decide +kernel
theorem dX6_give_208 : decode cX6_give 208 = .ok (.iconst 1, 1) := by decide +kernel
theorem dX6_give_209 : decode cX6_give 209 = .ok (.if_icmp .ge 7, 3) := by decide +kernel
theorem dX6_give_212 : decode cX6_give 212 = .ok (.iconst 0, 1) := by decide +kernel
theorem dX6_give_213 : decode cX6_give 213 = .ok (.goto 9, 3) := by decide +kernel
theorem dX6_give_216 : decode cX6_give 216 = .ok (.aload_n 0, 1) := by decide +kernel
theorem dX6_give_217 : decode cX6_give 217 = .ok (.getfield 18, 3) := by decide +kernel
theorem dX6_give_220 : decode cX6_give 220 = .ok (.iconst 0, 1) := by decide +kernel
theorem dX6_give_221 : decode cX6_give 221 = .ok (.iaload, 1) := by decide +kernel
theorem dX6_give_222 : decode cX6_give 222 = .ok (.ireturn, 1) := by decide +kernel
def f_X6_give_200 (fu : Nat) (k_40 : Int32 → Int32 → Int32 → Nat → Int32 → Int32 → Int32 → Mem → Option (Int32 × Mem)) (x2 : Int32) (x3 : Int32) (x4 : Int32) (i5 : Nat) (x6 : Int32) (x7 : Int32) (x8 : Int32) (m : Mem) : Option (Int32 × Mem) := seqM (x8 + 1) (fun x_1 : Int32 => k_40 x2 x3 x4 i5 x6 x7 x_1 m)
set_option maxHeartbeats 4000000 in
set_option maxRecDepth 100000 in
theorem w_X6_give_200 {X : TX} {p : Program} {l : Launch} {e : Env} {s : State} {mi : MethodId} {args : Array Value} {below : List Frame} {meth : Method} {c : Code} {Q : State → Prop} {r : Int32} {mE : Mem} (C : Cx X p s mi args c RX6 cX6_give 11) (hq : RetI X p l e (rmD 1) s mi args below meth c cX6_give .int Q r mE) {fu : Nat} {k_40 : Int32 → Int32 → Int32 → Nat → Int32 → Int32 → Int32 → Mem → Option (Int32 × Mem)} (hk_40 : ∀ {x2 : Int32} {x3 : Int32} {x4 : Int32} {i5 : Nat} {x6 : Int32} {x7 : Int32} {x8 : Int32} {m : Mem} {H : Heap} {locs : List Loc} {ls : Array Slot}, k_40 x2 x3 x4 i5 x6 x7 x8 m = some (r, mE) → (4, i5) ∈ ids → Wd X s m H locs → lv_has ls 11 [(0, .ref (ad X 1 0)), (2, .int x2), (3, .int x3), (4, .int x4), (5, .ref (ad X 4 i5)), (6, .int x6), (7, .int x7), (8, .int x8)] → W p l e (rmD 1) s mi args below meth c H locs 0 0 Q (F0 mi 40 ls [])) {x2 : Int32} {x3 : Int32} {x4 : Int32} {i5 : Nat} {x6 : Int32} {x7 : Int32} {x8 : Int32} {m : Mem} {H : Heap} {locs : List Loc} {ls : Array Slot} (h : f_X6_give_200 fu k_40 x2 x3 x4 i5 x6 x7 x8 m = some (r, mE)) (g_i5 : (4, i5) ∈ ids) (hW : Wd X s m H locs) (hl : lv_has ls 11 [(0, .ref (ad X 1 0)), (2, .int x2), (3, .int x3), (4, .int x4), (5, .ref (ad X 4 i5)), (6, .int x6), (7, .int x7), (8, .int x8)]) : W p l e (rmD 1) s mi args below meth c H locs 0 0 Q (F0 mi 200 ls []) := by
  unfold f_X6_give_200 at h
  obtain ⟨x_1, e_2, h⟩ := seqM_E h
  refine lv_iinc (v := x_1) (lv' := [(8, .int x_1), (0, .ref (ad X 1 0)), (2, .int x2), (3, .int x3), (4, .int x4), (5, .ref (ad X 4 i5)), (6, .int x6), (7, .int x7)]) C.1 C.2.1 dX6_give_200 hl (k := 7) rfl (by rw [e_2]; rfl) (by decide) rfl (fun ls hl => ?_)
  refine lv_goto (tgt := 40) C.1 C.2.1 dX6_give_203 (by decide) ?_
  exact hk_40 h g_i5 hW (lv_sub hl [1, 2, 3, 4, 5, 6, 7, 0] rfl)
def f_X6_give_115 (fu : Nat) (k_40 : Int32 → Int32 → Int32 → Nat → Int32 → Int32 → Int32 → Mem → Option (Int32 × Mem)) (x2 : Int32) (x3 : Int32) (x4 : Int32) (i5 : Nat) (x6 : Int32) (x7 : Int32) (x8 : Int32) (m : Mem) : Option (Int32 × Mem) := f_X6_give_200 fu k_40 x2 x3 x4 i5 x6 x7 x8 m
set_option maxHeartbeats 4000000 in
set_option maxRecDepth 100000 in
theorem w_X6_give_115 {X : TX} {p : Program} {l : Launch} {e : Env} {s : State} {mi : MethodId} {args : Array Value} {below : List Frame} {meth : Method} {c : Code} {Q : State → Prop} {r : Int32} {mE : Mem} (C : Cx X p s mi args c RX6 cX6_give 11) (hq : RetI X p l e (rmD 1) s mi args below meth c cX6_give .int Q r mE) {fu : Nat} {k_40 : Int32 → Int32 → Int32 → Nat → Int32 → Int32 → Int32 → Mem → Option (Int32 × Mem)} (hk_40 : ∀ {x2 : Int32} {x3 : Int32} {x4 : Int32} {i5 : Nat} {x6 : Int32} {x7 : Int32} {x8 : Int32} {m : Mem} {H : Heap} {locs : List Loc} {ls : Array Slot}, k_40 x2 x3 x4 i5 x6 x7 x8 m = some (r, mE) → (4, i5) ∈ ids → Wd X s m H locs → lv_has ls 11 [(0, .ref (ad X 1 0)), (2, .int x2), (3, .int x3), (4, .int x4), (5, .ref (ad X 4 i5)), (6, .int x6), (7, .int x7), (8, .int x8)] → W p l e (rmD 1) s mi args below meth c H locs 0 0 Q (F0 mi 40 ls [])) {x2 : Int32} {x3 : Int32} {x4 : Int32} {i5 : Nat} {x6 : Int32} {x7 : Int32} {x8 : Int32} {m : Mem} {H : Heap} {locs : List Loc} {ls : Array Slot} (h : f_X6_give_115 fu k_40 x2 x3 x4 i5 x6 x7 x8 m = some (r, mE)) (g_i5 : (4, i5) ∈ ids) (hW : Wd X s m H locs) (hl : lv_has ls 11 [(0, .ref (ad X 1 0)), (2, .int x2), (3, .int x3), (4, .int x4), (5, .ref (ad X 4 i5)), (6, .int x6), (7, .int x7), (8, .int x8)]) : W p l e (rmD 1) s mi args below meth c H locs 0 0 Q (F0 mi 115 ls []) := by
  unfold f_X6_give_115 at h
  refine lv_goto (tgt := 200) C.1 C.2.1 dX6_give_115 (by decide) ?_
  exact w_X6_give_200 C hq hk_40 h g_i5 hW (lv_sub hl [0, 1, 2, 3, 4, 5, 6, 7] rfl)
def f_X6_give_94 (fu : Nat) (k_40 : Int32 → Int32 → Int32 → Nat → Int32 → Int32 → Int32 → Mem → Option (Int32 × Mem)) (x2 : Int32) (x3 : Int32) (x4 : Int32) (i5 : Nat) (x6 : Int32) (x7 : Int32) (x8 : Int32) (y0 : Int32) (m : Mem) : Option (Int32 × Mem) := if 96 ≤ x7 then (f_X6_give_115 fu k_40 x2 x3 x4 i5 x6 x7 x8 m) else (chk (inb x7 96) (seqM (upd m (800 + x7.toNatClampNeg) y0) (fun m_2 : Mem => seqM (x7 + 1) (fun x_4 : Int32 => f_X6_give_115 fu k_40 x2 x3 x4 i5 x6 x_4 x8 m_2))))
set_option maxHeartbeats 4000000 in
set_option maxRecDepth 100000 in
theorem w_X6_give_94 {X : TX} {p : Program} {l : Launch} {e : Env} {s : State} {mi : MethodId} {args : Array Value} {below : List Frame} {meth : Method} {c : Code} {Q : State → Prop} {r : Int32} {mE : Mem} (C : Cx X p s mi args c RX6 cX6_give 11) (hq : RetI X p l e (rmD 1) s mi args below meth c cX6_give .int Q r mE) {fu : Nat} {k_40 : Int32 → Int32 → Int32 → Nat → Int32 → Int32 → Int32 → Mem → Option (Int32 × Mem)} (hk_40 : ∀ {x2 : Int32} {x3 : Int32} {x4 : Int32} {i5 : Nat} {x6 : Int32} {x7 : Int32} {x8 : Int32} {m : Mem} {H : Heap} {locs : List Loc} {ls : Array Slot}, k_40 x2 x3 x4 i5 x6 x7 x8 m = some (r, mE) → (4, i5) ∈ ids → Wd X s m H locs → lv_has ls 11 [(0, .ref (ad X 1 0)), (2, .int x2), (3, .int x3), (4, .int x4), (5, .ref (ad X 4 i5)), (6, .int x6), (7, .int x7), (8, .int x8)] → W p l e (rmD 1) s mi args below meth c H locs 0 0 Q (F0 mi 40 ls [])) {x2 : Int32} {x3 : Int32} {x4 : Int32} {i5 : Nat} {x6 : Int32} {x7 : Int32} {x8 : Int32} {y0 : Int32} {m : Mem} {H : Heap} {locs : List Loc} {ls : Array Slot} (h : f_X6_give_94 fu k_40 x2 x3 x4 i5 x6 x7 x8 y0 m = some (r, mE)) (g_i5 : (4, i5) ∈ ids) (hW : Wd X s m H locs) (hl : lv_has ls 11 [(0, .ref (ad X 1 0)), (2, .int x2), (3, .int x3), (4, .int x4), (5, .ref (ad X 4 i5)), (6, .int x6), (7, .int x7), (8, .int x8)]) : W p l e (rmD 1) s mi args below meth c H locs 0 0 Q (F0 mi 94 ls [.int y0]) := by
  unfold f_X6_give_94 at h
  refine lv_istore (lv' := [(10, .int y0), (0, .ref (ad X 1 0)), (2, .int x2), (3, .int x3), (4, .int x4), (5, .ref (ad X 4 i5)), (6, .int x6), (7, .int x7), (8, .int x8)]) C.1 C.2.1 dX6_give_94 hl (by decide) rfl (fun ls hl => ?_)
  refine lv_iload C.1 C.2.1 dX6_give_96 (lv_at hl 7 rfl) ?_
  refine lv_bipush (v := 96) C.1 C.2.1 dX6_give_98 rfl ?_
  refine lv_icmp_ge (tgt := 115) C.1 C.2.1 dX6_give_100 (by decide) (fun hc_6 => ?_) (fun hc_6 => ?_)
  · have h := ite_t hc_6 h
    exact w_X6_give_115 C hq hk_40 h g_i5 hW (lv_sub hl [1, 2, 3, 4, 5, 6, 7, 8] rfl)
  · have h := ite_f hc_6 h
    refine lv_aload_n C.1 C.2.1 dX6_give_103 rfl (lv_at hl 1 rfl) ?_
    refine zg_X6_stack C hW id_1 w_122 dX6_give_104 ?_
    refine lv_iload C.1 C.2.1 dX6_give_107 (lv_at hl 7 rfl) ?_
    refine lv_iload C.1 C.2.1 dX6_give_109 (lv_at hl 0 rfl) ?_
    obtain ⟨hb_1, h⟩ := chk_E h
    obtain ⟨m_2, e_3, h⟩ := seqM_E h
    refine zas_5 C hW id_5 (inb_E hb_1) e_3 dX6_give_111 (fun H locs hW => ?_)
    obtain ⟨x_4, e_5, h⟩ := seqM_E h
    refine lv_iinc (v := x_4) (lv' := [(7, .int x_4), (10, .int y0), (0, .ref (ad X 1 0)), (2, .int x2), (3, .int x3), (4, .int x4), (5, .ref (ad X 4 i5)), (6, .int x6), (8, .int x8)]) C.1 C.2.1 dX6_give_112 hl (k := 7) rfl (by rw [e_5]; rfl) (by decide) rfl (fun ls hl => ?_)
    exact w_X6_give_115 C hq hk_40 h g_i5 hW (lv_sub hl [2, 3, 4, 5, 6, 7, 0, 8] rfl)
def f_X6_give_156 (fu : Nat) (k_40 : Int32 → Int32 → Int32 → Nat → Int32 → Int32 → Int32 → Mem → Option (Int32 × Mem)) (x2 : Int32) (x3 : Int32) (x4 : Int32) (i5 : Nat) (x6 : Int32) (x7 : Int32) (x8 : Int32) (y1 : Int32) (y2 : Int32) (m : Mem) : Option (Int32 × Mem) := chk (inb y1 96) (seqM (upd m (800 + y1.toNatClampNeg) y2) (fun m_2 : Mem => f_X6_give_200 fu k_40 x2 x3 x4 i5 x6 x7 x8 m_2))
set_option maxHeartbeats 4000000 in
set_option maxRecDepth 100000 in
theorem w_X6_give_156 {X : TX} {p : Program} {l : Launch} {e : Env} {s : State} {mi : MethodId} {args : Array Value} {below : List Frame} {meth : Method} {c : Code} {Q : State → Prop} {r : Int32} {mE : Mem} (C : Cx X p s mi args c RX6 cX6_give 11) (hq : RetI X p l e (rmD 1) s mi args below meth c cX6_give .int Q r mE) {fu : Nat} {k_40 : Int32 → Int32 → Int32 → Nat → Int32 → Int32 → Int32 → Mem → Option (Int32 × Mem)} (hk_40 : ∀ {x2 : Int32} {x3 : Int32} {x4 : Int32} {i5 : Nat} {x6 : Int32} {x7 : Int32} {x8 : Int32} {m : Mem} {H : Heap} {locs : List Loc} {ls : Array Slot}, k_40 x2 x3 x4 i5 x6 x7 x8 m = some (r, mE) → (4, i5) ∈ ids → Wd X s m H locs → lv_has ls 11 [(0, .ref (ad X 1 0)), (2, .int x2), (3, .int x3), (4, .int x4), (5, .ref (ad X 4 i5)), (6, .int x6), (7, .int x7), (8, .int x8)] → W p l e (rmD 1) s mi args below meth c H locs 0 0 Q (F0 mi 40 ls [])) {x2 : Int32} {x3 : Int32} {x4 : Int32} {i5 : Nat} {x6 : Int32} {x7 : Int32} {x8 : Int32} {y1 : Int32} {y2 : Int32} {m : Mem} {H : Heap} {locs : List Loc} {ls : Array Slot} (h : f_X6_give_156 fu k_40 x2 x3 x4 i5 x6 x7 x8 y1 y2 m = some (r, mE)) (g_i5 : (4, i5) ∈ ids) (hW : Wd X s m H locs) (hl : lv_has ls 11 [(0, .ref (ad X 1 0)), (2, .int x2), (3, .int x3), (4, .int x4), (5, .ref (ad X 4 i5)), (6, .int x6), (7, .int x7), (8, .int x8)]) : W p l e (rmD 1) s mi args below meth c H locs 0 0 Q (F0 mi 156 ls [.int y2, .int y1, .ref (ad X 5 0)]) := by
  unfold f_X6_give_156 at h
  obtain ⟨hb_1, h⟩ := chk_E h
  obtain ⟨m_2, e_3, h⟩ := seqM_E h
  refine zas_5 C hW id_5 (inb_E hb_1) e_3 dX6_give_156 (fun H locs hW => ?_)
  refine lv_goto (tgt := 200) C.1 C.2.1 dX6_give_157 (by decide) ?_
  exact w_X6_give_200 C hq hk_40 h g_i5 hW (lv_sub hl [0, 1, 2, 3, 4, 5, 6, 7] rfl)
def f_X6_give_40 (fu : Nat)  : Nat → Int32 → Int32 → Int32 → Nat → Int32 → Int32 → Int32 → Mem → Option (Int32 × Mem)
  | 0, _, _, _, _, _, _, _, _ => none
  | n + 1, x2, x3, x4, i5, x6, x7, x8, m => if x6 ≤ x8 then (if 1 ≤ x7 then (some ((m (800 + (0 : Int32).toNatClampNeg)), m)) else (some (0, m))) else (chk (inb x8 96) (seqM (m ((1100 + 96 * i5) + x8.toNatClampNeg)) (fun x_3 : Int32 => if x_3 < (-3) then (if x_3 = (-33) then (if x7 < 1 then (f_X6_give_200 fu (f_X6_give_40 fu n) x2 x3 x4 i5 x6 x7 x8 m) else (chk (inb (x7 - 1) 96) (if (m (800 + (x7 - 1).toNatClampNeg)) = 0 then (f_X6_give_156 fu (f_X6_give_40 fu n) x2 x3 x4 i5 x6 x7 x8 (x7 - 1) 1 m) else (f_X6_give_156 fu (f_X6_give_40 fu n) x2 x3 x4 i5 x6 x7 x8 (x7 - 1) 0 m)))) else (if x7 < 2 then (f_X6_give_200 fu (f_X6_give_40 fu n) x2 x3 x4 i5 x6 x7 x8 m) else (seqM (x7 + (-1)) (fun x_5 : Int32 => chk (inb (x_5 - 1) 96) (chk (inb x_5 96) (doI (f_X6_join fu (-x_3) (m (800 + (x_5 - 1).toNatClampNeg)) (m (800 + x_5.toNatClampNeg)) m) (fun r_11 m_10 => chk (inb (x_5 - 1) 96) (seqM (upd m_10 (800 + (x_5 - 1).toNatClampNeg) r_11) (fun m_13 : Mem => f_X6_give_200 fu (f_X6_give_40 fu n) x2 x3 x4 i5 x6 x_5 x8 m_13))))))))) else (if x_3 < 0 then (if x_3 = (-1) then (f_X6_give_94 fu (f_X6_give_40 fu n) x2 x3 x4 i5 x6 x7 x8 x2 m) else (if x_3 = (-2) then (f_X6_give_94 fu (f_X6_give_40 fu n) x2 x3 x4 i5 x6 x7 x8 x3 m) else (f_X6_give_94 fu (f_X6_give_40 fu n) x2 x3 x4 i5 x6 x7 x8 x4 m))) else (f_X6_give_94 fu (f_X6_give_40 fu n) x2 x3 x4 i5 x6 x7 x8 x_3 m)))))
set_option maxHeartbeats 4000000 in
set_option maxRecDepth 100000 in
theorem w_X6_give_40 {X : TX} {p : Program} {l : Launch} {e : Env} {s : State} {mi : MethodId} {args : Array Value} {below : List Frame} {meth : Method} {c : Code} {Q : State → Prop} {r : Int32} {mE : Mem} (C : Cx X p s mi args c RX6 cX6_give 11) (hq : RetI X p l e (rmD 1) s mi args below meth c cX6_give .int Q r mE) {fu : Nat} : ∀ (n : Nat) {x2 : Int32} {x3 : Int32} {x4 : Int32} {i5 : Nat} {x6 : Int32} {x7 : Int32} {x8 : Int32} {m : Mem} {H : Heap} {locs : List Loc} {ls : Array Slot}, f_X6_give_40 fu n x2 x3 x4 i5 x6 x7 x8 m = some (r, mE) → (4, i5) ∈ ids → Wd X s m H locs → lv_has ls 11 [(0, .ref (ad X 1 0)), (2, .int x2), (3, .int x3), (4, .int x4), (5, .ref (ad X 4 i5)), (6, .int x6), (7, .int x7), (8, .int x8)] → W p l e (rmD 1) s mi args below meth c H locs 0 0 Q (F0 mi 40 ls []) := by
  intro n
  induction n with
  | zero =>
    intro x2 x3 x4 i5 x6 x7 x8 m H locs ls h g_i5 hW hl
    rw [f_X6_give_40] at h
    cases h
  | succ n ih =>
    intro x2 x3 x4 i5 x6 x7 x8 m H locs ls h g_i5 hW hl
    rw [f_X6_give_40] at h
    refine lv_iload C.1 C.2.1 dX6_give_40 (lv_at hl 7 rfl) ?_
    refine lv_iload C.1 C.2.1 dX6_give_42 (lv_at hl 5 rfl) ?_
    refine lv_icmp_ge (tgt := 206) C.1 C.2.1 dX6_give_44 (by decide) (fun hc_24 => ?_) (fun hc_24 => ?_)
    · have h := ite_t hc_24 h
      refine lv_iload C.1 C.2.1 dX6_give_206 (lv_at hl 6 rfl) ?_
      refine lv_iconst (v := 1) C.1 C.2.1 dX6_give_208 rfl ?_
      refine lv_icmp_ge (tgt := 216) C.1 C.2.1 dX6_give_209 (by decide) (fun hc_1 => ?_) (fun hc_1 => ?_)
      · have h := ite_t hc_1 h
        refine lv_aload_n C.1 C.2.1 dX6_give_216 rfl (lv_at hl 0 rfl) ?_
        refine zg_X6_stack C hW id_1 w_122 dX6_give_217 ?_
        refine lv_iconst (v := 0) C.1 C.2.1 dX6_give_220 rfl ?_
        refine zal_5 C hW id_5 (inb_E (by decide)) dX6_give_221 ?_
        exact ret_i h hq rfl hW dX6_give_222
      · have h := ite_f hc_1 h
        refine lv_iconst (v := 0) C.1 C.2.1 dX6_give_212 rfl ?_
        refine lv_goto (tgt := 222) C.1 C.2.1 dX6_give_213 (by decide) ?_
        exact ret_i h hq rfl hW dX6_give_222
    · have h := ite_f hc_24 h
      refine lv_aload C.1 C.2.1 dX6_give_47 (lv_at hl 4 rfl) ?_
      refine lv_iload C.1 C.2.1 dX6_give_49 (lv_at hl 7 rfl) ?_
      obtain ⟨hb_2, h⟩ := chk_E h
      refine zal_4 C hW g_i5 (inb_E hb_2) dX6_give_51 ?_
      obtain ⟨x_3, e_4, h⟩ := seqM_E h
      refine lv_name e_4 ?_
      refine lv_istore (lv' := [(9, .int x_3), (0, .ref (ad X 1 0)), (2, .int x2), (3, .int x3), (4, .int x4), (5, .ref (ad X 4 i5)), (6, .int x6), (7, .int x7), (8, .int x8)]) C.1 C.2.1 dX6_give_52 hl (by decide) rfl (fun ls hl => ?_)
      refine lv_iload C.1 C.2.1 dX6_give_54 (lv_at hl 0 rfl) ?_
      refine lv_bipush (v := (-3)) C.1 C.2.1 dX6_give_56 rfl ?_
      refine lv_icmp_lt (tgt := 118) C.1 C.2.1 dX6_give_58 (by decide) (fun hc_23 => ?_) (fun hc_23 => ?_)
      · have h := ite_t hc_23 h
        refine lv_iload C.1 C.2.1 dX6_give_118 (lv_at hl 0 rfl) ?_
        refine lv_bipush (v := (-33)) C.1 C.2.1 dX6_give_120 rfl ?_
        refine lv_icmp_ne (tgt := 160) C.1 C.2.1 dX6_give_122 (by decide) (fun hc_19 => ?_) (fun hc_19 => ?_)
        · have h := ite_f hc_19 h
          refine lv_iload C.1 C.2.1 dX6_give_160 (lv_at hl 7 rfl) ?_
          refine lv_iconst (v := 2) C.1 C.2.1 dX6_give_162 rfl ?_
          refine lv_icmp_lt (tgt := 200) C.1 C.2.1 dX6_give_163 (by decide) (fun hc_15 => ?_) (fun hc_15 => ?_)
          · have h := ite_t hc_15 h
            exact w_X6_give_200 C hq ih h g_i5 hW (lv_sub hl [1, 2, 3, 4, 5, 6, 7, 8] rfl)
          · have h := ite_f hc_15 h
            obtain ⟨x_5, e_6, h⟩ := seqM_E h
            refine lv_iinc (v := x_5) (lv' := [(7, .int x_5), (9, .int x_3), (0, .ref (ad X 1 0)), (2, .int x2), (3, .int x3), (4, .int x4), (5, .ref (ad X 4 i5)), (6, .int x6), (8, .int x8)]) C.1 C.2.1 dX6_give_166 hl (k := 7) rfl (by rw [e_6]; rfl) (by decide) rfl (fun ls hl => ?_)
            refine lv_aload_n C.1 C.2.1 dX6_give_169 rfl (lv_at hl 2 rfl) ?_
            refine zg_X6_stack C hW id_1 w_122 dX6_give_170 ?_
            refine lv_iload C.1 C.2.1 dX6_give_173 (lv_at hl 0 rfl) ?_
            refine lv_iconst (v := 1) C.1 C.2.1 dX6_give_175 rfl ?_
            refine lv_isub C.1 C.2.1 dX6_give_176 ?_
            refine lv_iload C.1 C.2.1 dX6_give_177 (lv_at hl 1 rfl) ?_
            refine lv_ineg C.1 C.2.1 dX6_give_179 ?_
            refine lv_aload_n C.1 C.2.1 dX6_give_180 rfl (lv_at hl 2 rfl) ?_
            refine zg_X6_stack C hW id_1 w_122 dX6_give_181 ?_
            refine lv_iload C.1 C.2.1 dX6_give_184 (lv_at hl 0 rfl) ?_
            refine lv_iconst (v := 1) C.1 C.2.1 dX6_give_186 rfl ?_
            refine lv_isub C.1 C.2.1 dX6_give_187 ?_
            obtain ⟨hb_7, h⟩ := chk_E h
            refine zal_5 C hW id_5 (inb_E hb_7) dX6_give_188 ?_
            refine lv_aload_n C.1 C.2.1 dX6_give_189 rfl (lv_at hl 2 rfl) ?_
            refine zg_X6_stack C hW id_1 w_122 dX6_give_190 ?_
            refine lv_iload C.1 C.2.1 dX6_give_193 (lv_at hl 0 rfl) ?_
            obtain ⟨hb_8, h⟩ := chk_E h
            refine zal_5 C hW id_5 (inb_E hb_8) dX6_give_195 ?_
            obtain ⟨r_11, m_10, hc_9, h⟩ := doI_E h
            refine zr_cSI C hW (c_X6_join (x0 := (-x_3)) (x1 := (m (800 + (x_5 - 1).toNatClampNeg))) (x2 := (m (800 + x_5.toNatClampNeg))) hc_9 ) k_X6_join w_549 ⟨Nat.le_of_ble_eq_true rfl, Nat.le_of_ble_eq_true rfl⟩ ⟨Nat.le_refl 0, Nat.le_refl 0⟩ rfl hl.1 rfl (Nat.le_of_ble_eq_true rfl) dX6_give_196 (fun H locs hW => ?_)
            obtain ⟨hb_12, h⟩ := chk_E h
            obtain ⟨m_13, e_14, h⟩ := seqM_E h
            refine zas_5 C hW id_5 (inb_E hb_12) e_14 dX6_give_199 (fun H locs hW => ?_)
            exact w_X6_give_200 C hq ih h g_i5 hW (lv_sub hl [2, 3, 4, 5, 6, 7, 0, 8] rfl)
        · have h := ite_t hc_19 h
          refine lv_iload C.1 C.2.1 dX6_give_125 (lv_at hl 7 rfl) ?_
          refine lv_iconst (v := 1) C.1 C.2.1 dX6_give_127 rfl ?_
          refine lv_icmp_lt (tgt := 200) C.1 C.2.1 dX6_give_128 (by decide) (fun hc_18 => ?_) (fun hc_18 => ?_)
          · have h := ite_t hc_18 h
            exact w_X6_give_200 C hq ih h g_i5 hW (lv_sub hl [1, 2, 3, 4, 5, 6, 7, 8] rfl)
          · have h := ite_f hc_18 h
            refine lv_aload_n C.1 C.2.1 dX6_give_131 rfl (lv_at hl 1 rfl) ?_
            refine zg_X6_stack C hW id_1 w_122 dX6_give_132 ?_
            refine lv_iload C.1 C.2.1 dX6_give_135 (lv_at hl 7 rfl) ?_
            refine lv_iconst (v := 1) C.1 C.2.1 dX6_give_137 rfl ?_
            refine lv_isub C.1 C.2.1 dX6_give_138 ?_
            refine lv_aload_n C.1 C.2.1 dX6_give_139 rfl (lv_at hl 1 rfl) ?_
            refine zg_X6_stack C hW id_1 w_122 dX6_give_140 ?_
            refine lv_iload C.1 C.2.1 dX6_give_143 (lv_at hl 7 rfl) ?_
            refine lv_iconst (v := 1) C.1 C.2.1 dX6_give_145 rfl ?_
            refine lv_isub C.1 C.2.1 dX6_give_146 ?_
            obtain ⟨hb_16, h⟩ := chk_E h
            refine zal_5 C hW id_5 (inb_E hb_16) dX6_give_147 ?_
            refine lv_if_ne (tgt := 155) C.1 C.2.1 dX6_give_148 (by decide) (fun hc_17 => ?_) (fun hc_17 => ?_)
            · have h := ite_f hc_17 h
              refine lv_iconst (v := 0) C.1 C.2.1 dX6_give_155 rfl ?_
              exact w_X6_give_156 C hq ih h g_i5 hW (lv_sub hl [1, 2, 3, 4, 5, 6, 7, 8] rfl)
            · have h := ite_t hc_17 h
              refine lv_iconst (v := 1) C.1 C.2.1 dX6_give_151 rfl ?_
              refine lv_goto (tgt := 156) C.1 C.2.1 dX6_give_152 (by decide) ?_
              exact w_X6_give_156 C hq ih h g_i5 hW (lv_sub hl [1, 2, 3, 4, 5, 6, 7, 8] rfl)
      · have h := ite_f hc_23 h
        refine lv_iload C.1 C.2.1 dX6_give_61 (lv_at hl 0 rfl) ?_
        refine lv_if_lt (tgt := 71) C.1 C.2.1 dX6_give_63 (by decide) (fun hc_22 => ?_) (fun hc_22 => ?_)
        · have h := ite_t hc_22 h
          refine lv_iload C.1 C.2.1 dX6_give_71 (lv_at hl 0 rfl) ?_
          refine lv_iconst (v := (-1)) C.1 C.2.1 dX6_give_73 rfl ?_
          refine lv_icmp_ne (tgt := 81) C.1 C.2.1 dX6_give_74 (by decide) (fun hc_21 => ?_) (fun hc_21 => ?_)
          · have h := ite_f hc_21 h
            refine lv_iload C.1 C.2.1 dX6_give_81 (lv_at hl 0 rfl) ?_
            refine lv_bipush (v := (-2)) C.1 C.2.1 dX6_give_83 rfl ?_
            refine lv_icmp_ne (tgt := 92) C.1 C.2.1 dX6_give_85 (by decide) (fun hc_20 => ?_) (fun hc_20 => ?_)
            · have h := ite_f hc_20 h
              refine lv_iload C.1 C.2.1 dX6_give_92 (lv_at hl 4 rfl) ?_
              exact w_X6_give_94 C hq ih h g_i5 hW (lv_sub hl [1, 2, 3, 4, 5, 6, 7, 8] rfl)
            · have h := ite_t hc_20 h
              refine lv_iload_n C.1 C.2.1 dX6_give_88 rfl (lv_at hl 3 rfl) ?_
              refine lv_goto (tgt := 94) C.1 C.2.1 dX6_give_89 (by decide) ?_
              exact w_X6_give_94 C hq ih h g_i5 hW (lv_sub hl [1, 2, 3, 4, 5, 6, 7, 8] rfl)
          · have h := ite_t hc_21 h
            refine lv_iload_n C.1 C.2.1 dX6_give_77 rfl (lv_at hl 2 rfl) ?_
            refine lv_goto (tgt := 94) C.1 C.2.1 dX6_give_78 (by decide) ?_
            exact w_X6_give_94 C hq ih h g_i5 hW (lv_sub hl [1, 2, 3, 4, 5, 6, 7, 8] rfl)
        · have h := ite_f hc_22 h
          refine lv_iload C.1 C.2.1 dX6_give_66 (lv_at hl 0 rfl) ?_
          refine lv_goto (tgt := 94) C.1 C.2.1 dX6_give_68 (by decide) ?_
          exact w_X6_give_94 C hq ih h g_i5 hW (lv_sub hl [1, 2, 3, 4, 5, 6, 7, 8] rfl)
def f_X6_give (fu : Nat)  (x1 : Int32) (x2 : Int32) (x3 : Int32) (x4 : Int32) (m : Mem) : Option (Int32 × Mem) := if x1 < 0 then (some (0, m)) else (if x1 < 14 then (chk (inb x1 14) (chk (inb x1 14) (seqM (m (tf x1.toNatClampNeg 2)) (fun x_3 : Int32 => f_X6_give_40 fu fu x2 x3 x4 x1.toNatClampNeg x_3 0 0 m)))) else (some (0, m)))
set_option maxHeartbeats 4000000 in
set_option maxRecDepth 100000 in
theorem w_X6_give {X : TX} {p : Program} {l : Launch} {e : Env} {s : State} {mi : MethodId} {args : Array Value} {below : List Frame} {meth : Method} {c : Code} {Q : State → Prop} {r : Int32} {mE : Mem} (C : Cx X p s mi args c RX6 cX6_give 11) (hq : RetI X p l e (rmD 1) s mi args below meth c cX6_give .int Q r mE) {fu : Nat} {x1 : Int32} {x2 : Int32} {x3 : Int32} {x4 : Int32} {m : Mem} {H : Heap} {locs : List Loc} {ls : Array Slot} (h : f_X6_give fu x1 x2 x3 x4 m = some (r, mE))  (hW : Wd X s m H locs) (hl : lv_has ls 11 [(0, .ref (ad X 1 0)), (1, .int x1), (2, .int x2), (3, .int x3), (4, .int x4)]) : W p l e (rmD 1) s mi args below meth c H locs 0 0 Q (F0 mi 0 ls []) := by
  unfold f_X6_give at h
  refine lv_iload_n C.1 C.2.1 dX6_give_0 rfl (lv_at hl 1 rfl) ?_
  refine lv_if_lt (tgt := 10) C.1 C.2.1 dX6_give_1 (by decide) (fun hc_6 => ?_) (fun hc_6 => ?_)
  · have h := ite_t hc_6 h
    refine lv_iconst (v := 0) C.1 C.2.1 dX6_give_10 rfl ?_
    exact ret_i h hq rfl hW dX6_give_11
  · have h := ite_f hc_6 h
    refine lv_iload_n C.1 C.2.1 dX6_give_4 rfl (lv_at hl 1 rfl) ?_
    refine lv_bipush (v := 14) C.1 C.2.1 dX6_give_5 rfl ?_
    refine lv_icmp_lt (tgt := 12) C.1 C.2.1 dX6_give_7 (by decide) (fun hc_5 => ?_) (fun hc_5 => ?_)
    · have h := ite_t hc_5 h
      refine lv_aload_n C.1 C.2.1 dX6_give_12 rfl (lv_at hl 0 rfl) ?_
      refine zg_X6_list C hW id_1 w_120 dX6_give_13 ?_
      refine lv_iload_n C.1 C.2.1 dX6_give_16 rfl (lv_at hl 1 rfl) ?_
      obtain ⟨hb_1, h⟩ := chk_E h
      refine zaa_2 C hW id_2 (inb_E hb_1) dX6_give_17 ?_
      refine zg_X5_code C hW (ia_2 (inb_E hb_1)) w_109 dX6_give_18 ?_
      refine lv_astore (lv' := [(5, .ref (ad X 4 x1.toNatClampNeg)), (0, .ref (ad X 1 0)), (1, .int x1), (2, .int x2), (3, .int x3), (4, .int x4)]) C.1 C.2.1 dX6_give_21 hl (by decide) rfl (fun ls hl => ?_)
      refine lv_aload_n C.1 C.2.1 dX6_give_23 rfl (lv_at hl 1 rfl) ?_
      refine zg_X6_list C hW id_1 w_120 dX6_give_24 ?_
      refine lv_iload_n C.1 C.2.1 dX6_give_27 rfl (lv_at hl 2 rfl) ?_
      obtain ⟨hb_2, h⟩ := chk_E h
      refine zaa_2 C hW id_2 (inb_E hb_2) dX6_give_28 ?_
      refine zg_X5_size C hW (ia_2 (inb_E hb_2)) w_107 dX6_give_29 ?_
      obtain ⟨x_3, e_4, h⟩ := seqM_E h
      refine lv_name e_4 ?_
      refine lv_istore (lv' := [(6, .int x_3), (5, .ref (ad X 4 x1.toNatClampNeg)), (0, .ref (ad X 1 0)), (1, .int x1), (2, .int x2), (3, .int x3), (4, .int x4)]) C.1 C.2.1 dX6_give_32 hl (by decide) rfl (fun ls hl => ?_)
      refine lv_iconst (v := 0) C.1 C.2.1 dX6_give_34 rfl ?_
      refine lv_istore (lv' := [(7, .int 0), (6, .int x_3), (5, .ref (ad X 4 x1.toNatClampNeg)), (0, .ref (ad X 1 0)), (1, .int x1), (2, .int x2), (3, .int x3), (4, .int x4)]) C.1 C.2.1 dX6_give_35 hl (by decide) rfl (fun ls hl => ?_)
      refine lv_iconst (v := 0) C.1 C.2.1 dX6_give_37 rfl ?_
      refine lv_istore (lv' := [(8, .int 0), (7, .int 0), (6, .int x_3), (5, .ref (ad X 4 x1.toNatClampNeg)), (0, .ref (ad X 1 0)), (1, .int x1), (2, .int x2), (3, .int x3), (4, .int x4)]) C.1 C.2.1 dX6_give_38 hl (by decide) rfl (fun ls hl => ?_)
      exact w_X6_give_40 C hq  fu h (im_3_4 (ia_2 (inb_E hb_1))) hW (lv_sub hl [4, 6, 7, 8, 3, 2, 1, 0] rfl)
    · have h := ite_f hc_5 h
      refine lv_iconst (v := 0) C.1 C.2.1 dX6_give_10 rfl ?_
      exact ret_i h hq rfl hW dX6_give_11
theorem c_X6_give {X : TX} {l : Launch} {fu : Nat} {x1 : Int32} {x2 : Int32} {x3 : Int32} {x4 : Int32} {m mE : Mem} {r : Int32} (h : f_X6_give fu x1 x2 x3 x4 m = some (r, mE))  : MetI X l yX6_give cX6_give 11 .int 1 [.ref (ad X 1 0), .int x1, .int x2, .int x3, .int x4] m r mE :=
  met_I (by decide) (Nat.le_of_ble_eq_true rfl) (fun p e s mi args below meth c ls Q C hq hW hl => w_X6_give C hq h  hW (lv_sub hl [0, 1, 2, 3, 4] rfl))
theorem k_X6_give : CalV yX6_give cX6_give 11 (some .int) RX6 4 := ⟨w_546, w_547, w_62, w_548, by decide +kernel⟩
